/-! deeds: nights, walls, learnt, forgotten, led nowhere -/
def up1 (f : Nat → Nat) (k v : Nat) : Nat → Nat := fun a => if a = k then v else f a
theorem up1_eq {f : Nat → Nat} {k v : Nat} : up1 f k v k = v := if_pos rfl
theorem up1_ne {f : Nat → Nat} {k v a : Nat} (h : a ≠ k) : up1 f k v a = f a := if_neg h
theorem up1_self {f : Nat → Nat} {k : Nat} : up1 f k (f k) = f := by
  funext a
  unfold up1
  split
  · next h => rw [h]
  · rfl
theorem up1_up1 {f : Nat → Nat} {k v w : Nat} : up1 (up1 f k v) k w = up1 f k w := by
  funext a
  unfold up1
  split
  · rfl
  · rfl
section DE
variable {σ σ' : dm_G} {Q : Option Value → dm_G → Prop} {S G : Nat} {c n : Nat → Nat} {k : Nat} {p : Nat → Nat → Nat} {q : Nat} {im : Nat → Nat → Nat} {h : Nat} {hs ht : Nat → Nat} {m : Nat} {bg bx : Nat → Nat} {L : Nat} {tx : Nat → Nat} {f : Int32} {s : Nat}
theorem MN_up {i v : Nat} (hn : MN σ n) : MN (dm_up σ 121 i (.int (nI v))) (up1 n i v) := by
  intro j hj
  rw [gi_up]
  unfold up1
  by_cases z : j = i
  · rw [if_pos ⟨rfl, z⟩, if_pos z]
  · rw [if_neg (fun w => z w.2), if_neg z]
    exact hn j hj
theorem CN_u {i g v : Nat} (hG : G ≤ 6) (hg : g < 6) (hi : i < 3) (hN : CN σ S G n) : CN (dm_up σ (S + 1 + i) g (.int (nI v))) S G (up1 n (6 * i + g) v) := by
  obtain ⟨kS, ⟨q0, q1, q2⟩, ⟨j3, j4, j5, j6⟩, jf⟩ := hN
  have h0 : ∀ b, dm_up σ (S + 1 + i) g (.int (nI v)) S b = σ S b := fun b => by rw [up_get, if_neg (by omega)]
  refine ⟨kS, ⟨(h0 0).trans q0, (h0 1).trans q1, (h0 2).trans q2⟩, ⟨?_, ?_, ?_, ?_⟩, fun x hx => ?_⟩
  · rw [h0, up1_ne (by omega)]; exact j3
  · rw [h0, up1_ne (by omega)]; exact j4
  · rw [h0, up1_ne (by omega)]; exact j5
  · rw [h0, up1_ne (by omega)]; exact j6
  · obtain ⟨a1, a2, a3⟩ := jf x hx
    refine ⟨?_, ?_, ?_⟩
    · rw [gi_up]
      by_cases z : i = 0 ∧ x = g
      · rw [if_pos (by omega), show x = 6 * i + g by omega, up1_eq]
      · rw [if_neg (by omega), up1_ne (by omega)]; exact a1
    · rw [gi_up]
      by_cases z : i = 1 ∧ x = g
      · rw [if_pos (by omega), show 6 + x = 6 * i + g by omega, up1_eq]
      · rw [if_neg (by omega), up1_ne (by omega)]; exact a2
    · rw [gi_up]
      by_cases z : i = 2 ∧ x = g
      · rw [if_pos (by omega), show 12 + x = 6 * i + g by omega, up1_eq]
      · rw [if_neg (by omega), up1_ne (by omega)]; exact a3
theorem CN_f {b i v : Nat} (hG : G ≤ 6) (hb : (b = 3 ∧ i = 19) ∨ (b = 4 ∧ i = 18) ∨ (b = 5 ∧ i = 20) ∨ (b = 6 ∧ i = 21)) (hN : CN σ S G n) : CN (dm_up σ S b (.int (nI v))) S G (up1 n i v) := by
  obtain ⟨kS, ⟨q0, q1, q2⟩, ⟨j3, j4, j5, j6⟩, jf⟩ := hN
  have h0 : ∀ x, x ≠ b → dm_up σ S b (.int (nI v)) S x = σ S x := fun x z => by rw [up_get, if_neg (fun w => z w.2)]
  have h1 : dm_up σ S b (.int (nI v)) S b = .int (nI v) := by rw [up_get, if_pos ⟨rfl, rfl⟩]
  have h2 : ∀ j x, 1 ≤ j → gi (dm_up σ S b (.int (nI v))) (S + j) x = gi σ (S + j) x := fun j x z => by rw [gi_up, if_neg (by omega)]
  refine ⟨kS, ⟨(h0 0 (by omega)).trans q0, (h0 1 (by omega)).trans q1, (h0 2 (by omega)).trans q2⟩, ⟨?_, ?_, ?_, ?_⟩, fun x hx => ?_⟩
  · by_cases z : b = 3
    · have : i = 19 := by omega
      subst z; subst this
      rw [h1, up1_eq]
    · rw [h0 3 (by omega), up1_ne (by omega)]; exact j3
  · by_cases z : b = 4
    · have : i = 18 := by omega
      subst z; subst this
      rw [h1, up1_eq]
    · rw [h0 4 (by omega), up1_ne (by omega)]; exact j4
  · by_cases z : b = 5
    · have : i = 20 := by omega
      subst z; subst this
      rw [h1, up1_eq]
    · rw [h0 5 (by omega), up1_ne (by omega)]; exact j5
  · by_cases z : b = 6
    · have : i = 21 := by omega
      subst z; subst this
      rw [h1, up1_eq]
    · rw [h0 6 (by omega), up1_ne (by omega)]; exact j6
  · obtain ⟨a1, a2, a3⟩ := jf x hx
    rw [h2 1 x (by omega), h2 2 x (by omega), h2 3 x (by omega), up1_ne (by omega), up1_ne (by omega), up1_ne (by omega)]
    exact ⟨a1, a2, a3⟩
theorem CA_u {i g v : Nat} (hG : c 2 ≤ 6) (hg : g < 6) (hi : i < 3) (hCA : CA c n k p q im h hs ht m bg bx L tx f s σ) : CA c (up1 n (6 * i + g) v) k p q im h hs ht m bg bx L tx f s (dm_up σ (24 + 1 + i) g (.int (nI v))) := CA_now hCA (fun a b z => by rw [up_get, if_neg (by omega)]) (CN_u hG hg hi hCA.2.1)
theorem CA_f {b i v : Nat} (hG : c 2 ≤ 6) (hb : (b = 3 ∧ i = 19) ∨ (b = 4 ∧ i = 18) ∨ (b = 5 ∧ i = 20) ∨ (b = 6 ∧ i = 21)) (hCA : CA c n k p q im h hs ht m bg bx L tx f s σ) : CA c (up1 n i v) k p q im h hs ht m bg bx L tx f s (dm_up σ 24 b (.int (nI v))) := CA_now hCA (fun a b z => by rw [up_get, if_neg (by omega)]) (CN_f hG hb hCA.2.1)
theorem MA_up {i v : Nat} (hMA : MA c n k p q im h hs ht m bg bx L tx f s σ) : MA c (up1 n i v) k p q im h hs ht m bg bx L tx f s (dm_up σ 121 i (.int (nI v))) := MA_now hMA (fun a b z => by rw [up_get, if_neg (by omega)]) (MN_up hMA.2.2.1)
theorem WN_g {i g v : Nat} (hn : WN c n) (hw : WC c) (hg : g < c 2) (hi : i < 3) (h0 : i = 0 → v < c 0) (h1 : i = 1 → v < 2 ^ c 0) (h2 : i = 2 → v < 2 ^ c 3) : WN c (up1 n (6 * i + g) v) := by
  obtain ⟨hn1, hn18, hn19, hn20, hn21⟩ := hn
  have w2 := hw.2.1
  refine ⟨fun x hx => ?_, ?_, ?_, ?_, ?_⟩
  · obtain ⟨a1, a2, a3⟩ := hn1 x hx
    refine ⟨?_, ?_, ?_⟩
    · by_cases z : x = 6 * i + g
      · rw [z, up1_eq]; exact h0 (by omega)
      · rw [up1_ne z]; exact a1
    · by_cases z : 6 + x = 6 * i + g
      · rw [z, up1_eq]; exact h1 (by omega)
      · rw [up1_ne z]; exact a2
    · by_cases z : 12 + x = 6 * i + g
      · rw [z, up1_eq]; exact h2 (by omega)
      · rw [up1_ne z]; exact a3
  · rw [up1_ne (by omega)]; exact hn18
  · rw [up1_ne (by omega)]; exact hn19
  · rw [up1_ne (by omega)]; exact hn20
  · rw [up1_ne (by omega)]; exact hn21
theorem WN_19 {v : Nat} (hn : WN c n) (hw : WC c) (h1 : v < 2 ^ c 0) : WN c (up1 n 19 v) := by
  obtain ⟨hn1, hn18, hn19, hn20, hn21⟩ := hn
  have w2 := hw.2.1
  refine ⟨fun x hx => ?_, ?_, ?_, ?_, ?_⟩
  · rw [up1_ne (by omega), up1_ne (by omega), up1_ne (by omega)]
    exact hn1 x hx
  · rw [up1_ne (by omega)]; exact hn18
  · rw [up1_eq]; exact h1
  · rw [up1_ne (by omega)]; exact hn20
  · rw [up1_ne (by omega)]; exact hn21
theorem WN_nt {v : Nat} (hn : WN c n) (hw : WC c) (h1 : v ≤ 9060) : WN c (up1 (up1 n 20 v) 18 0) := by
  obtain ⟨hn1, hn18, hn19, hn20, hn21⟩ := hn
  have w2 := hw.2.1
  refine ⟨fun x hx => ?_, ?_, ?_, ?_, ?_⟩
  · rw [up1_ne (by omega), up1_ne (by omega), up1_ne (by omega), up1_ne (by omega), up1_ne (by omega), up1_ne (by omega)]
    exact hn1 x hx
  · rw [up1_eq]; exact Nat.two_pow_pos _
  · rw [up1_ne (by omega), up1_ne (by omega)]; exact hn19
  · rw [up1_ne (by omega), up1_eq]; exact h1
  · rw [up1_ne (by omega), up1_ne (by omega)]; exact hn21
theorem up_lo {a0 b0 : Nat} {v : Value} (h0 : 118 ≤ a0) : ∀ a b, a < 118 → dm_up σ a0 b0 v a b = σ a b := fun a b z => by rw [up_get, if_neg (by omega)]
theorem up_hi {a0 b0 : Nat} {v : Value} (h0 : a0 < 118) : ∀ a b, 118 ≤ a → dm_up σ a0 b0 v a b = σ a b := fun a b z => by rw [up_get, if_neg (by omega)]
-- learn
theorem pr_learn (x y : Int32) (hI : Inv σ) : Pr Inv 90 174 [.int x, .int y] σ := by
  obtain ⟨c, n, k, p, q, im, h, hs, ht, m, bg, bx, L, tx, f, s, hWA, hCA, hMA⟩ := id hI; obtain ⟨hw, hwn, ⟨hk16, hkp⟩, ⟨hq4, hqi⟩, ⟨hh9, hhs, hht⟩, ⟨hm15, hmb⟩, ⟨hL240, htx⟩, hs31⟩ := id hWA; obtain ⟨⟨P, D, hPD, hB, hC, hD⟩, hN, hPa, hIm, hHe, hBk, hTx, hF, hS, hSc⟩ := id hCA; obtain ⟨hM, hc, hn, hmP, hmI, hmH, hmB, hmT, hmF, hmS⟩ := id hMA
  obtain ⟨b0, b3, b4, b5, b6, b7, b8, b9, b10, b11, b12⟩ := id hB
  obtain ⟨w0, w2, w3, w4, w5, w6, w7, w8, w9⟩ := id hw
  obtain ⟨m0, m1, m2, m3, m5, m6, m8, m11, m12, m14, m22, m23, m24, m25, m29, m30, m31, m32⟩ := id hM
  obtain ⟨⟨kP, ⟨t1, l1⟩, ⟨t2, l2⟩, ⟨t3, l3⟩, ⟨t4, l4⟩, ⟨t5, l5⟩, ⟨t6, l6⟩, ⟨t7, l7⟩, ⟨t8, l8⟩, ⟨t9, l9⟩⟩, ⟨r1, r2, r3, r4, r5, r6, r7, r8, r9⟩, ⟨i0, i2, i3, i4⟩, f1, f2, f3, f4, f5, f6, f7⟩ := id hC
  obtain ⟨⟨kS, ⟨u1, v1⟩, ⟨u2, v2⟩, ⟨u3, v3⟩⟩, ⟨q0, q1, q2⟩, ⟨j3, j4, j5, j6⟩, jf⟩ := id hN
  have p8 : 2 ^ c 0 ≤ 2 ^ 8 := Nat.pow_le_pow_right (by decide) hw.1
  rcases ix_cs x (show c 2 < 2 ^ 31 by omega) with ⟨g, hg, rfl⟩ | ⟨hx, hx2⟩
  · have g31 : n (6 + g) < 2 ^ 31 := by have := (hwn.1 g hg).2.1; omega
    rcases ix_cs y (show c 0 < 2 ^ 31 by omega) with ⟨e, he, rfl⟩ | ⟨hy, hy2⟩
    · have ca := fun Q => c_at (σ := σ) (Q := Q) u2 (show g < kl (24 + 2) by rw [v2]; omega) (by rw [v2]; omega)
      rw [(jf g hg).2.1] at ca
      by_cases hb : (n (6 + g)).testBit e = true
      · refine pr_of (v := -1000000003) (σ1 := σ) (σ2 := σ) (fun Q => Cq_of (Er_of ?_)) (fun Q => Cq_of (Er_of ?_)) hI
        · show Wq none 90 0 [some (.ref (0 : Nat)), some (.int (nI g)), some (.int (nI e)), none] [] σ _
          simp only [w90_0, w90_1, w90_4, w90_5, w90_8, w90_11, w90_12, w90_15, w90_16, w90_19, w90_22, w90_24, w90_25, w90_26, w90_29, w90_32, w90_33, w90_36, w90_37, w90_38, w90_39, w90_40, w90_41, w90_42, w90_45, w90_47, w90_48, w90_49, w90_52, w90_53, w90_56, w90_59, w90_60, w90_63, w90_66, w90_67, w90_68, w90_69, w90_70, w90_71, w90_72, w90_75, w90_76, w90_77, w90_78, w90_79, w90_80, ks_0, ks_24, kP, b4, b6, q1, c_hasGuide hC hg hw, c_hasCrossing hC he hw, nI_ne1, ca, nI_bit g31 (show e < 32 by omega), hb, ↓reduceIte, Option.toList_some, Option.toList_none, List.cons_append, List.nil_append, and_self]
        · show Wq none 174 0 [some (.ref (118 : Nat)), some (.int (nI g)), some (.int (nI e))] [] σ _
          simp only [w174_0, w174_1, w174_2, w174_5, w174_8, w174_9, w174_10, w174_13, w174_16, w174_18, w174_19, w174_20, w174_23, w174_25, w174_26, w174_27, w174_28, w174_29, w174_32, w174_35, w174_37, w174_38, w174_39, w174_42, w174_43, w174_46, w174_48, w174_49, w174_50, w174_51, w174_52, w174_53, w174_54, w174_55, w174_56, w174_57, w174_58, w174_61, w174_63, w174_64, w174_65, w174_66, ks_118, c_isGuide (x := nI g) hM hc hw ⟨g, hg, rfl⟩, c_isCrossing (x := nI e) hM hc hw ⟨e, he, rfl⟩, nI_ne1, m2, kt_121, nI_add, in_nI (show 6 + g < kl 121 by rw [kl_121]; omega) (by rw [kl_121]; omega), nI_clamp (show 6 + g < 2 ^ 31 by omega), hn (6 + g) (by omega), c_has g31 (show e < 32 by omega), hb, ↓reduceIte, Option.toList_some, Option.toList_none, List.cons_append, List.nil_append, and_self]
      · obtain ⟨τ1, e1, hCA1, k1⟩ := c_keepA hWA hCA
        have hCA2 := CA_u (g := g) (i := 1) (v := n (6 + g) ||| 1 <<< e) w2 (by omega) (by omega) hCA1
        have lo : ∀ a b, 118 ≤ a → dm_up τ1 26 g (.int (nI (n (6 + g) ||| 1 <<< e))) a b = σ a b := fun a b z => (up_hi (by omega) a b z).trans (k1 a b z)
        have hMA2 := MA_lo hMA lo
        obtain ⟨τ4, e4, hMA4, k4⟩ := c_rememberA hWA hMA2
        have hMA5 := MA_up (i := 6 + g) (v := n (6 + g) ||| 1 <<< e) hMA4
        have W5 := WA_now (WA_push hWA) (WN_g (i := 1) (g := g) (v := n (6 + g) ||| 1 <<< e) hwn hw hg (by omega) (by omega) (fun _ => or_lt (hwn.1 g hg).2.1 (one_shl he)) (by omega))
        obtain ⟨hM2, hc2, hn2, -⟩ := id hMA2
        obtain ⟨hM4, hc4, hn4, -⟩ := id hMA4
        have y4 : τ4 118 2 = (.ref (121 : Nat)) := hM4.2.2.1
        have y5 : dm_up τ4 121 (6 + g) (.int (nI (n (6 + g) ||| 1 <<< e))) 118 2 = (.ref (121 : Nat)) := hM4.2.2.1
        have y6 : gi (dm_up τ4 121 (6 + g) (.int (nI (n (6 + g) ||| 1 <<< e)))) 121 (6 + g) = nI (n (6 + g) ||| 1 <<< e) := by rw [gi_up, if_pos ⟨rfl, rfl⟩]
        obtain ⟨⟨P', D', -, hB1, -⟩, hN1, -⟩ := id hCA1
        have z1 : τ1 0 5 = (.ref (24 : Nat)) := hB1.2.2.2.2.1
        have z2 : τ1 24 1 = .ref (24 + 2) := hN1.2.1.2.1
        refine pr_of (fun Q => Cq_of (Er_of (σ' := dm_up τ1 26 g (.int (nI (n (6 + g) ||| 1 <<< e)))) (r := some (.int (nI (n (6 + g) ||| 1 <<< e)))) ?_)) (fun Q => Cq_of (Er_of (σ' := dm_up τ4 121 (6 + g) (.int (nI (n (6 + g) ||| 1 <<< e)))) ?_)) (inv_mk W5 hCA2 (fun a b z => (up_lo (by omega) a b z).trans (k4 a b z)) hMA5)
        · show Wq none 90 0 [some (.ref (0 : Nat)), some (.int (nI g)), some (.int (nI e)), none] [] σ _
          simp only [w90_0, w90_1, w90_4, w90_5, w90_8, w90_11, w90_12, w90_15, w90_16, w90_19, w90_22, w90_24, w90_25, w90_26, w90_29, w90_32, w90_33, w90_36, w90_37, w90_38, w90_39, w90_40, w90_41, w90_42, w90_45, w90_47, w90_48, w90_49, w90_52, w90_53, w90_56, w90_59, w90_60, w90_63, w90_66, w90_67, w90_68, w90_69, w90_70, w90_71, w90_72, w90_75, w90_76, w90_77, w90_78, w90_79, w90_80, ks_0, ks_24, ks_28, kP, b4, b6, b7, q1, c_hasGuide hC hg hw, c_hasCrossing hC he hw, nI_ne1, ca, nI_bit g31 (show e < 32 by omega), hb, e1, z1, z2, nI_shl 1 (show e < 32 by omega), nI_or, c_put u2 (show g < kl (24 + 2) by rw [v2]; omega) (by rw [v2]; omega), ↓reduceIte, Option.toList_some, Option.toList_none, List.cons_append, List.nil_append, and_self, Bool.false_eq_true]
        · show Wq none 174 0 [some (.ref (118 : Nat)), some (.int (nI g)), some (.int (nI e))] [] (dm_up τ1 26 g (.int (nI (n (6 + g) ||| 1 <<< e)))) _
          simp only [w174_0, w174_1, w174_2, w174_5, w174_8, w174_9, w174_10, w174_13, w174_16, w174_18, w174_19, w174_20, w174_23, w174_25, w174_26, w174_27, w174_28, w174_29, w174_32, w174_35, w174_37, w174_38, w174_39, w174_42, w174_43, w174_46, w174_48, w174_49, w174_50, w174_51, w174_52, w174_53, w174_54, w174_55, w174_56, w174_57, w174_58, w174_61, w174_63, w174_64, w174_65, w174_66, ks_118, c_isGuide (x := nI g) hM2 hc2 hw ⟨g, hg, rfl⟩, c_isCrossing (x := nI e) hM2 hc2 hw ⟨e, he, rfl⟩, nI_ne1, hM2.2.2.1, kt_121, nI_add, in_nI (show 6 + g < kl 121 by rw [kl_121]; omega) (by rw [kl_121]; omega), nI_clamp (show 6 + g < 2 ^ 31 by omega), hn2 (6 + g) (by omega), c_has g31 (show e < 32 by omega), hb, e4, y4, hn4 (6 + g) (by omega), nI_shl 1 (show e < 32 by omega), nI_or, y5, y6, ↓reduceIte, Option.toList_some, Option.toList_none, List.cons_append, List.nil_append, and_self, Bool.false_eq_true]
    · refine pr_of (v := -1000000001) (σ1 := σ) (σ2 := σ) (fun Q => Cq_of (Er_of ?_)) (fun Q => Cq_of (Er_of ?_)) hI
      · show Wq none 90 0 [some (.ref (0 : Nat)), some (.int (nI g)), some (.int y), none] [] σ _
        simp only [w90_0, w90_1, w90_4, w90_5, w90_8, w90_11, w90_12, w90_15, w90_16, w90_19, w90_22, w90_24, w90_25, w90_26, w90_29, w90_32, w90_33, w90_36, w90_37, w90_38, w90_39, w90_40, w90_41, w90_42, w90_45, w90_47, w90_48, w90_49, w90_52, w90_53, w90_56, w90_59, w90_60, w90_63, w90_66, w90_67, w90_68, w90_69, w90_70, w90_71, w90_72, w90_75, w90_76, w90_77, w90_78, w90_79, w90_80, ks_0, kP, b4, c_hasGuide hC hg hw, c_hasCrossing_f hC hy, nI_ne1, ↓reduceIte, Option.toList_some, Option.toList_none, List.cons_append, List.nil_append, and_self]
      · show Wq none 174 0 [some (.ref (118 : Nat)), some (.int (nI g)), some (.int y)] [] σ _
        simp only [w174_0, w174_1, w174_2, w174_5, w174_8, w174_9, w174_10, w174_13, w174_16, w174_18, w174_19, w174_20, w174_23, w174_25, w174_26, w174_27, w174_28, w174_29, w174_32, w174_35, w174_37, w174_38, w174_39, w174_42, w174_43, w174_46, w174_48, w174_49, w174_50, w174_51, w174_52, w174_53, w174_54, w174_55, w174_56, w174_57, w174_58, w174_61, w174_63, w174_64, w174_65, w174_66, ks_118, c_isGuide (x := nI g) hM hc hw ⟨g, hg, rfl⟩, c_isCrossing_f hM hc hw hy2, nI_ne1, ↓reduceIte, Option.toList_some, Option.toList_none, List.cons_append, List.nil_append, and_self]
  · refine pr_of (v := -1000000001) (σ1 := σ) (σ2 := σ) (fun Q => Cq_of (Er_of ?_)) (fun Q => Cq_of (Er_of ?_)) hI
    · show Wq none 90 0 [some (.ref (0 : Nat)), some (.int x), some (.int y), none] [] σ _
      simp only [w90_0, w90_1, w90_4, w90_5, w90_8, w90_11, w90_12, w90_15, w90_16, w90_19, w90_22, w90_24, w90_25, w90_26, w90_29, w90_32, w90_33, w90_36, w90_37, w90_38, w90_39, w90_40, w90_41, w90_42, w90_45, w90_47, w90_48, w90_49, w90_52, w90_53, w90_56, w90_59, w90_60, w90_63, w90_66, w90_67, w90_68, w90_69, w90_70, w90_71, w90_72, w90_75, w90_76, w90_77, w90_78, w90_79, w90_80, ks_0, kP, b4, c_hasGuide_f hC hx, ↓reduceIte, Option.toList_some, Option.toList_none, List.cons_append, List.nil_append, and_self]
    · show Wq none 174 0 [some (.ref (118 : Nat)), some (.int x), some (.int y)] [] σ _
      simp only [w174_0, w174_1, w174_2, w174_5, w174_8, w174_9, w174_10, w174_13, w174_16, w174_18, w174_19, w174_20, w174_23, w174_25, w174_26, w174_27, w174_28, w174_29, w174_32, w174_35, w174_37, w174_38, w174_39, w174_42, w174_43, w174_46, w174_48, w174_49, w174_50, w174_51, w174_52, w174_53, w174_54, w174_55, w174_56, w174_57, w174_58, w174_61, w174_63, w174_64, w174_65, w174_66, ks_118, c_isGuide_f hM hc hw hx2, ↓reduceIte, Option.toList_some, Option.toList_none, List.cons_append, List.nil_append, and_self]
-- forget
theorem pr_forget (x : Int32) (hI : Inv σ) : Pr Inv 91 175 [.int x] σ := by
  obtain ⟨c, n, k, p, q, im, h, hs, ht, m, bg, bx, L, tx, f, s, hWA, hCA, hMA⟩ := id hI; obtain ⟨hw, hwn, ⟨hk16, hkp⟩, ⟨hq4, hqi⟩, ⟨hh9, hhs, hht⟩, ⟨hm15, hmb⟩, ⟨hL240, htx⟩, hs31⟩ := id hWA; obtain ⟨⟨P, D, hPD, hB, hC, hD⟩, hN, hPa, hIm, hHe, hBk, hTx, hF, hS, hSc⟩ := id hCA; obtain ⟨hM, hc, hn, hmP, hmI, hmH, hmB, hmT, hmF, hmS⟩ := id hMA
  obtain ⟨b0, b3, b4, b5, b6, b7, b8, b9, b10, b11, b12⟩ := id hB
  obtain ⟨w0, w2, w3, w4, w5, w6, w7, w8, w9⟩ := id hw
  obtain ⟨m0, m1, m2, m3, m5, m6, m8, m11, m12, m14, m22, m23, m24, m25, m29, m30, m31, m32⟩ := id hM
  obtain ⟨⟨kP, ⟨t1, l1⟩, ⟨t2, l2⟩, ⟨t3, l3⟩, ⟨t4, l4⟩, ⟨t5, l5⟩, ⟨t6, l6⟩, ⟨t7, l7⟩, ⟨t8, l8⟩, ⟨t9, l9⟩⟩, ⟨r1, r2, r3, r4, r5, r6, r7, r8, r9⟩, ⟨i0, i2, i3, i4⟩, f1, f2, f3, f4, f5, f6, f7⟩ := id hC
  obtain ⟨⟨kS, ⟨u1, v1⟩, ⟨u2, v2⟩, ⟨u3, v3⟩⟩, ⟨q0, q1, q2⟩, ⟨j3, j4, j5, j6⟩, jf⟩ := id hN
  rcases ix_cs x (show c 2 < 2 ^ 31 by omega) with ⟨g, hg, rfl⟩ | ⟨hx, hx2⟩
  · obtain ⟨τ1, e1, hCA1, k1⟩ := c_keepA hWA hCA
    have hCA2 := CA_u (g := g) (i := 2) (v := 0) w2 (by omega) (by omega) hCA1
    have lo : ∀ a b, 118 ≤ a → dm_up τ1 27 g (.int (nI 0)) a b = σ a b := fun a b z => (up_hi (by omega) a b z).trans (k1 a b z)
    have hMA2 := MA_lo hMA lo
    obtain ⟨τ4, e4, hMA4, k4⟩ := c_rememberA hWA hMA2
    have hMA5 := MA_up (i := 12 + g) (v := 0) hMA4
    have W5 := WA_now (WA_push hWA) (WN_g (i := 2) (g := g) (v := 0) hwn hw hg (by omega) (by omega) (by omega) (fun _ => Nat.two_pow_pos _))
    obtain ⟨hM2, hc2, hn2, -⟩ := id hMA2
    obtain ⟨hM4, hc4, hn4, -⟩ := id hMA4
    have y4 : τ4 118 2 = (.ref (121 : Nat)) := hM4.2.2.1
    obtain ⟨⟨P', D', -, hB1, -⟩, hN1, -⟩ := id hCA1
    have z1 : τ1 0 5 = (.ref (24 : Nat)) := hB1.2.2.2.2.1
    have z2 : τ1 24 2 = .ref (24 + 3) := hN1.2.1.2.2
    have ca := fun Q => c_at (σ := τ1) (Q := Q) u3 (show g < kl (24 + 3) by rw [v3]; omega) (by rw [v3]; omega)
    rw [(hN1.2.2.2 g hg).2.2] at ca
    refine pr_of (fun Q => Cq_of (Er_of (σ' := dm_up τ1 27 g (.int (nI 0))) (r := some (.int (nI (n (12 + g))))) ?_)) (fun Q => Cq_of (Er_of (σ' := dm_up τ4 121 (12 + g) (.int (nI 0))) ?_)) (inv_mk W5 hCA2 (fun a b z => (up_lo (by omega) a b z).trans (k4 a b z)) hMA5)
    · show Wq none 91 0 [some (.ref (0 : Nat)), some (.int (nI g)), none] [] σ _
      simp only [w91_0, w91_1, w91_4, w91_5, w91_8, w91_11, w91_13, w91_14, w91_15, w91_18, w91_19, w91_22, w91_25, w91_26, w91_29, w91_32, w91_33, w91_36, w91_37, w91_38, w91_41, w91_44, w91_45, w91_46, w91_49, w91_50, ks_0, ks_24, ks_28, kP, b4, b6, b7, c_hasGuide hC hg hw, nI_ne1, e1, z1, z2, ca, c_put u3 (show g < kl (24 + 3) by rw [v3]; omega) (by rw [v3]; omega), ↓reduceIte, Option.toList_some, Option.toList_none, List.cons_append, List.nil_append, and_self]
    · show Wq none 175 0 [some (.ref (118 : Nat)), some (.int (nI g)), none] [] (dm_up τ1 27 g (.int (nI 0))) _
      simp only [w175_0, w175_1, w175_2, w175_5, w175_8, w175_10, w175_11, w175_12, w175_15, w175_16, w175_19, w175_21, w175_22, w175_23, w175_24, w175_25, w175_26, w175_29, w175_31, w175_32, w175_33, w175_34, w175_35, w175_36, ks_118, c_isGuide (x := nI g) hM2 hc2 hw ⟨g, hg, rfl⟩, nI_ne1, e4, y4, kt_121, nI_add, in_nI (show 12 + g < kl 121 by rw [kl_121]; omega) (by rw [kl_121]; omega), nI_clamp (show 12 + g < 2 ^ 31 by omega), hn4 (12 + g) (by omega), ↓reduceIte, Option.toList_some, Option.toList_none, List.cons_append, List.nil_append, and_self]
  · refine pr_of (v := -1000000001) (σ1 := σ) (σ2 := σ) (fun Q => Cq_of (Er_of ?_)) (fun Q => Cq_of (Er_of ?_)) hI
    · show Wq none 91 0 [some (.ref (0 : Nat)), some (.int x), none] [] σ _
      simp only [w91_0, w91_1, w91_4, w91_5, w91_8, w91_11, w91_13, w91_14, w91_15, w91_18, w91_19, w91_22, w91_25, w91_26, w91_29, w91_32, w91_33, w91_36, w91_37, w91_38, w91_41, w91_44, w91_45, w91_46, w91_49, w91_50, ks_0, kP, b4, c_hasGuide_f hC hx, ↓reduceIte, Option.toList_some, Option.toList_none, List.cons_append, List.nil_append, and_self]
    · show Wq none 175 0 [some (.ref (118 : Nat)), some (.int x), none] [] σ _
      simp only [w175_0, w175_1, w175_2, w175_5, w175_8, w175_10, w175_11, w175_12, w175_15, w175_16, w175_19, w175_21, w175_22, w175_23, w175_24, w175_25, w175_26, w175_29, w175_31, w175_32, w175_33, w175_34, w175_35, w175_36, ks_118, c_isGuide_f hM hc hw hx2, ↓reduceIte, Option.toList_some, Option.toList_none, List.cons_append, List.nil_append, and_self]
end DE
