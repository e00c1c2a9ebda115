/-! walls, led nowhere, nights -/
section WL
variable {σ σ' : dm_G} {Q : Option Value → dm_G → Prop} {S G : Nat} {c n : Nat → Nat} {k : Nat} {p : Nat → Nat → Nat} {q : Nat} {im : Nat → Nat → Nat} {h : Nat} {hs ht : Nat → Nat} {m : Nat} {bg bx : Nat → Nat} {L : Nat} {tx : Nat → Nat} {f : Int32} {s : Nat}
theorem xor_or {a x : Nat} (h : a.testBit x = false) : a ^^^ 1 <<< x = a ||| 1 <<< x := Nat.eq_of_testBit_eq fun i => by
  rw [Nat.testBit_xor, Nat.testBit_or, tb_shl1]
  by_cases z : x = i
  · subst z; rw [h]; simp
  · simp [z]
theorem xor_an {a x : Nat} (h : a.testBit x = true) : a ^^^ 1 <<< x = andn a (1 <<< x) := Nat.eq_of_testBit_eq fun i => by
  rw [Nat.testBit_xor, andn_tb, tb_shl1]
  by_cases z : x = i
  · subst z; rw [h]; simp
  · simp [z]
theorem or_id {a x : Nat} (h : a.testBit x = true) : a ||| 1 <<< x = a := Nat.eq_of_testBit_eq fun i => by
  rw [Nat.testBit_or, tb_shl1]
  by_cases z : x = i
  · subst z; rw [h]; simp
  · simp [z]
theorem an_id {a x : Nat} (h : a.testBit x = false) : andn a (1 <<< x) = a := Nat.eq_of_testBit_eq fun i => by
  rw [andn_tb, tb_shl1]
  by_cases z : x = i
  · subst z; rw [h]; simp
  · simp [z]
/-- the walls behind: is (1) or none (0) at x -/
def waN (a x b : Nat) : Nat := if b = 0 then andn a (1 <<< x) else a ||| 1 <<< x
theorem waN_lt {a x b N : Nat} (ha : a < 2 ^ N) (hx : x < N) : waN a x b < 2 ^ N := by
  unfold waN
  split
  · exact andn_lt ha
  · exact or_lt ha (one_shl hx)
theorem pr_wall (x b : Int32) (hI : Inv σ) (hb : b = nI 0 ∨ b = nI 1) : Pr Inv 89 173 [.int x, .int b] σ := by
  obtain ⟨c, n, k, p, q, im, h, hs, ht, m, bg, bx, L, tx, f, s, hWA, hCA, hMA⟩ := id hI; obtain ⟨hw, hwn, ⟨hk16, hkp⟩, ⟨hq4, hqi⟩, ⟨hh9, hhs, hht⟩, ⟨hm15, hmb⟩, ⟨hL240, htx⟩, hs31⟩ := id hWA; obtain ⟨⟨P, D, hPD, hB, hC, hD⟩, hN, hPa, hIm, hHe, hBk, hTx, hF, hS, hSc⟩ := id hCA; obtain ⟨hM, hc, hn, hmP, hmI, hmH, hmB, hmT, hmF, hmS⟩ := id hMA
  obtain ⟨b0, b3, b4, b5, b6, b7, b8, b9, b10, b11, b12⟩ := id hB
  obtain ⟨w0, w2, w3, w4, w5, w6, w7, w8, w9⟩ := id hw
  obtain ⟨m0, m1, m2, m3, m5, m6, m8, m11, m12, m14, m22, m23, m24, m25, m29, m30, m31, m32⟩ := id hM
  obtain ⟨⟨kP, ⟨t1, l1⟩, ⟨t2, l2⟩, ⟨t3, l3⟩, ⟨t4, l4⟩, ⟨t5, l5⟩, ⟨t6, l6⟩, ⟨t7, l7⟩, ⟨t8, l8⟩, ⟨t9, l9⟩⟩, ⟨r1, r2, r3, r4, r5, r6, r7, r8, r9⟩, ⟨i0, i2, i3, i4⟩, f1, f2, f3, f4, f5, f6, f7⟩ := id hC
  obtain ⟨⟨kS, ⟨u1, v1⟩, ⟨u2, v2⟩, ⟨u3, v3⟩⟩, ⟨q0, q1, q2⟩, ⟨j3, j4, j5, j6⟩, jf⟩ := id hN
  have p8 : 2 ^ c 0 ≤ 2 ^ 8 := Nat.pow_le_pow_right (by decide) hw.1
  obtain ⟨hn1, hn18, hn19, hn20, hn21⟩ := id hwn
  have hb : ∃ z, z < 2 ∧ b = nI z := by
    rcases hb with h | h
    · exact ⟨0, by omega, h⟩
    · exact ⟨1, by omega, h⟩
  obtain ⟨b, hb2, rfl⟩ := hb
  rcases ix_cs x (show c 0 < 2 ^ 31 by omega) with ⟨e, he, rfl⟩ | ⟨hx, hx2⟩
  · obtain ⟨τ1, e1, hCA1, k1⟩ := c_keepA hWA hCA
    have hN1 := hCA1.2.1
    obtain ⟨⟨P', D', -, hB1, -⟩, -⟩ := id hCA1
    have z1 : τ1 0 5 = (.ref (24 : Nat)) := hB1.2.2.2.2.1
    have z3 : τ1 24 3 = .int (nI (n 19)) := hN1.2.2.1.1
    have h19 : n 19 < 2 ^ 31 := by omega
    have he32 : e < 32 := by omega
    have key : ∃ τ2, (∀ Q : Option Value → dm_G → Prop, Cq 89 [(.ref (0 : Nat)), .int (nI e), .int (nI b)] σ Q = Q (some (.int (if (n 19).testBit e = true then nI 1 else nI 0))) τ2) ∧ CA c (up1 n 19 (waN (n 19) e b)) (min (k + 1) 16) (pushP n p) q im h hs ht m bg bx L tx f s τ2 ∧ ∀ a b, 118 ≤ a → τ2 a b = σ a b := by
      have hCA2 := fun v => CA_f (b := 3) (i := 19) (v := v) w2 (by omega) hCA1
      have lo := fun v a b (z : 118 ≤ a) => (up_hi (σ := τ1) (a0 := 24) (b0 := 3) (v := v) (by omega) a b z).trans (k1 a b z)
      by_cases ht : (n 19).testBit e = true
      · by_cases h0 : b = 0
        · subst h0
          refine ⟨dm_up τ1 24 3 (.int (nI (n 19 ^^^ 1 <<< e))), fun Q => Cq_of (Er_of ?_), ?_, lo _⟩
          · show Wq none 89 0 [some (.ref (0 : Nat)), some (.int (nI e)), some (.int (nI 0)), none] [] σ _
            simp only [w89_0, w89_1, w89_4, w89_5, w89_8, w89_11, w89_13, w89_14, w89_15, w89_18, w89_19, w89_22, w89_25, w89_26, w89_29, w89_32, w89_33, w89_34, w89_35, w89_36, w89_37, w89_38, w89_41, w89_42, w89_45, w89_46, w89_47, w89_50, w89_51, w89_54, w89_54i, w89_55, w89_58, w89_59, w89_60, w89_61, w89_62, w89_65, w89_66, ks_0, ks_24, ks_28, kP, b4, b6, b7, c_hasCrossing hC he hw, nI_ne1, e1, z1, z3, nI_bit h19 he32, ht, nI_shl 1 he32, nI_xor, ↓reduceIte, Option.toList_some, Option.toList_none, List.cons_append, List.nil_append, and_self]
          · rw [show waN (n 19) e 0 = n 19 ^^^ 1 <<< e from (xor_an ht).symm]
            exact hCA2 _
        · obtain rfl : b = 1 := by omega
          refine ⟨τ1, fun Q => Cq_of (Er_of ?_), ?_, k1⟩
          · show Wq none 89 0 [some (.ref (0 : Nat)), some (.int (nI e)), some (.int (nI 1)), none] [] σ _
            simp only [w89_0, w89_1, w89_4, w89_5, w89_8, w89_11, w89_13, w89_14, w89_15, w89_18, w89_19, w89_22, w89_25, w89_26, w89_29, w89_32, w89_33, w89_34, w89_35, w89_36, w89_37, w89_38, w89_41, w89_42, w89_45, w89_46, w89_47, w89_50, w89_51, w89_54, w89_54i, w89_55, w89_58, w89_59, w89_60, w89_61, w89_62, w89_65, w89_66, ks_0, ks_24, ks_28, kP, b4, b6, b7, c_hasCrossing hC he hw, nI_ne1, e1, z1, z3, nI_bit h19 he32, ht, ↓reduceIte, Option.toList_some, Option.toList_none, List.cons_append, List.nil_append, and_self]
          · rw [show waN (n 19) e 1 = n 19 from or_id ht, up1_self]
            exact hCA1
      · have ht' : (n 19).testBit e = false := by simpa using ht
        by_cases h0 : b = 0
        · subst h0
          refine ⟨τ1, fun Q => Cq_of (Er_of ?_), ?_, k1⟩
          · show Wq none 89 0 [some (.ref (0 : Nat)), some (.int (nI e)), some (.int (nI 0)), none] [] σ _
            simp only [w89_0, w89_1, w89_4, w89_5, w89_8, w89_11, w89_13, w89_14, w89_15, w89_18, w89_19, w89_22, w89_25, w89_26, w89_29, w89_32, w89_33, w89_34, w89_35, w89_36, w89_37, w89_38, w89_41, w89_42, w89_45, w89_46, w89_47, w89_50, w89_51, w89_54, w89_54i, w89_55, w89_58, w89_59, w89_60, w89_61, w89_62, w89_65, w89_66, ks_0, ks_24, ks_28, kP, b4, b6, b7, c_hasCrossing hC he hw, nI_ne1, e1, z1, z3, nI_bit h19 he32, ht, ↓reduceIte, Option.toList_some, Option.toList_none, List.cons_append, List.nil_append, and_self, Bool.false_eq_true]
          · rw [show waN (n 19) e 0 = n 19 from an_id ht', up1_self]
            exact hCA1
        · obtain rfl : b = 1 := by omega
          refine ⟨dm_up τ1 24 3 (.int (nI (n 19 ^^^ 1 <<< e))), fun Q => Cq_of (Er_of ?_), ?_, lo _⟩
          · show Wq none 89 0 [some (.ref (0 : Nat)), some (.int (nI e)), some (.int (nI 1)), none] [] σ _
            simp only [w89_0, w89_1, w89_4, w89_5, w89_8, w89_11, w89_13, w89_14, w89_15, w89_18, w89_19, w89_22, w89_25, w89_26, w89_29, w89_32, w89_33, w89_34, w89_35, w89_36, w89_37, w89_38, w89_41, w89_42, w89_45, w89_46, w89_47, w89_50, w89_51, w89_54, w89_54i, w89_55, w89_58, w89_59, w89_60, w89_61, w89_62, w89_65, w89_66, ks_0, ks_24, ks_28, kP, b4, b6, b7, c_hasCrossing hC he hw, nI_ne1, (by decide : ¬ nI 0 = nI 1), e1, z1, z3, nI_bit h19 he32, ht, nI_shl 1 he32, nI_xor, ↓reduceIte, Option.toList_some, Option.toList_none, List.cons_append, List.nil_append, and_self, Bool.false_eq_true]
          · rw [show waN (n 19) e 1 = n 19 ^^^ 1 <<< e from (xor_or ht').symm]
            exact hCA2 _
    obtain ⟨τ2, e2, hCA2, k2⟩ := key
    have hMA2 := MA_lo hMA k2
    obtain ⟨τ4, e4, hMA4, k4⟩ := c_rememberA hWA hMA2
    have hMA5 := MA_up (i := 19) (v := waN (n 19) e b) hMA4
    have W5 := WA_now (WA_push hWA) (WN_19 (v := waN (n 19) e b) hwn hw (waN_lt hn19 he))
    obtain ⟨hM2, hc2, hn2, -⟩ := id hMA2
    obtain ⟨hM4, hc4, hn4, -⟩ := id hMA4
    have y4 : τ4 118 2 = (.ref (121 : Nat)) := hM4.2.2.1
    refine pr_of (σ2 := dm_up τ4 121 19 (.int (nI (waN (n 19) e b)))) e2 (fun Q => Cq_of (Er_of ?_)) (inv_mk W5 hCA2 (fun a b z => (up_lo (by omega) a b z).trans (k4 a b z)) hMA5)
    show Wq none 173 0 [some (.ref (118 : Nat)), some (.int (nI e)), some (.int (nI b)), none] [] τ2 _
    by_cases h0 : b = 0
    · subst h0
      simp only [w173_0, w173_1, w173_2, w173_5, w173_8, w173_10, w173_11, w173_12, w173_15, w173_16, w173_19, w173_21, w173_22, w173_23, w173_24, w173_25, w173_26, w173_27, w173_28, w173_31, w173_33, w173_34, w173_37, w173_38, w173_41, w173_43, w173_44, w173_45, w173_46, w173_47, w173_48, w173_51, w173_52, w173_55, w173_57, w173_58, w173_59, w173_60, w173_61, w173_62, w173_63, w173_64, w173_65, w173_66, ks_118, c_isCrossing (x := nI e) hM2 hc2 hw ⟨e, he, rfl⟩, nI_ne1, e4, y4, kt_121, in_nI (show 19 < kl 121 by rw [kl_121]; omega) (by rw [kl_121]; omega), nI_clamp (show 19 < 2 ^ 31 by omega), hn4 19 (by omega), nI_bit h19 he32, nI_shl 1 he32, nI_andn, ↓reduceIte, Option.toList_some, Option.toList_none, List.cons_append, List.nil_append, true_and]
      rfl
    · obtain rfl : b = 1 := by omega
      simp only [w173_0, w173_1, w173_2, w173_5, w173_8, w173_10, w173_11, w173_12, w173_15, w173_16, w173_19, w173_21, w173_22, w173_23, w173_24, w173_25, w173_26, w173_27, w173_28, w173_31, w173_33, w173_34, w173_37, w173_38, w173_41, w173_43, w173_44, w173_45, w173_46, w173_47, w173_48, w173_51, w173_52, w173_55, w173_57, w173_58, w173_59, w173_60, w173_61, w173_62, w173_63, w173_64, w173_65, w173_66, ks_118, c_isCrossing (x := nI e) hM2 hc2 hw ⟨e, he, rfl⟩, nI_ne1, e4, y4, kt_121, in_nI (show 19 < kl 121 by rw [kl_121]; omega) (by rw [kl_121]; omega), nI_clamp (show 19 < 2 ^ 31 by omega), hn4 19 (by omega), nI_bit h19 he32, nI_shl 1 he32, nI_or, ↓reduceIte, Option.toList_some, Option.toList_none, List.cons_append, List.nil_append, true_and]
      rfl
  · refine pr_of (v := -1000000001) (σ1 := σ) (σ2 := σ) (fun Q => Cq_of (Er_of ?_)) (fun Q => Cq_of (Er_of ?_)) hI
    · show Wq none 89 0 [some (.ref (0 : Nat)), some (.int x), some (.int (nI b)), none] [] σ _
      simp only [w89_0, w89_1, w89_4, w89_5, w89_8, w89_11, w89_13, w89_14, w89_15, w89_18, w89_19, w89_22, w89_25, w89_26, w89_29, w89_32, w89_33, w89_34, w89_35, w89_36, w89_37, w89_38, w89_41, w89_42, w89_45, w89_46, w89_47, w89_50, w89_51, w89_54, w89_54i, w89_55, w89_58, w89_59, w89_60, w89_61, w89_62, w89_65, w89_66, ks_0, kP, b4, c_hasCrossing_f hC hx, ↓reduceIte, Option.toList_some, Option.toList_none, List.cons_append, List.nil_append, and_self]
    · show Wq none 173 0 [some (.ref (118 : Nat)), some (.int x), some (.int (nI b)), none] [] σ _
      simp only [w173_0, w173_1, w173_2, w173_5, w173_8, w173_10, w173_11, w173_12, w173_15, w173_16, w173_19, w173_21, w173_22, w173_23, w173_24, w173_25, w173_26, w173_27, w173_28, w173_31, w173_33, w173_34, w173_37, w173_38, w173_41, w173_43, w173_44, w173_45, w173_46, w173_47, w173_48, w173_51, w173_52, w173_55, w173_57, w173_58, w173_59, w173_60, w173_61, w173_62, w173_63, w173_64, w173_65, w173_66, ks_118, c_isCrossing_f hM hc hw hx2, ↓reduceIte, Option.toList_some, Option.toList_none, List.cons_append, List.nil_append, and_self]
-- led nowhere
def nwS (c : Nat → Nat) (o x : Nat) : Nat := if o.testBit (c (13 + (3 * x + 0))) = true then c (13 + (3 * x + 0)) else x
def nwN (c : Nat → Nat) (o : Nat) : Nat → Nat → Nat := fun k x => match k with
  | 0 => x
  | k + 1 => nwN c o k (nwS c o x)
theorem nwN_fix {o x : Nat} (hx : nwS c o x = x) : ∀ k, nwN c o k x = x := by
  intro k
  induction k with
  | zero => rfl
  | succ k ih => rw [nwN, hx]; exact ih
theorem nwS_lt (hw : WC c) {o x : Nat} (hx : x < c 0) : nwS c o x < c 0 := by
  unfold nwS
  split
  · exact hw.2.2.2.2.2.1 (3 * x + 0) (by omega)
  · exact hx
theorem nwN_lt (hw : WC c) {o : Nat} : ∀ k x, x < c 0 → nwN c o k x < c 0 := by
  intro k
  induction k with
  | zero => intro x hx; exact hx
  | succ k ih => intro x hx; exact ih _ (nwS_lt hw hx)
theorem l_cNw {P D g d : Nat} (hB : BR σ P D) (hC : CC σ P c) (hN : CN σ 24 (c 2) n) (hw : WC c) (hwn : WN c n) (hg : g < c 2) (hd : d < 2 ^ 31) : ∀ (k i x : Nat) (v5 : Option Value), i + k = d → x < c 0 → Wq none 88 54 [some (.ref (0 : Nat)), some (.int (nI g)), some (.int (nI d)), some (.int (nI x)), some (.int (nI i)), v5] [] σ Q = Q (some (.int (nI (nwN c (andn (n (6 + g)) (n 19)) k x)))) (dm_up σ 25 g (.int (nI (nwN c (andn (n (6 + g)) (n 19)) k x)))) := by
  obtain ⟨b0, b3, b4, b5, b6, b7, b8, b9, b10, b11, b12⟩ := id hB
  obtain ⟨w0, w2, w3, w4, w5, w6, w7, w8, w9⟩ := id hw
  obtain ⟨⟨kS, ⟨u1, v1⟩, ⟨u2, v2⟩, ⟨u3, v3⟩⟩, ⟨q0, q1, q2⟩, ⟨j3, j4, j5, j6⟩, jf⟩ := id hN
  have kP := hC.1.1
  have ho := andn_lt31 hw hwn hg
  intro k
  induction k with
  | zero =>
    intro i x v5 hi hx
    obtain rfl : i = d := by omega
    rw [w88_54]
    simp only [w88_0, w88_1, w88_4, w88_5, w88_8, w88_11, w88_13, w88_14, w88_15, w88_16, w88_19, w88_20, w88_22, w88_25, w88_27, w88_28, w88_29, w88_32, w88_33, w88_36, w88_39, w88_40, w88_43, w88_46, w88_47, w88_50, w88_51, w88_52, w88_56, w88_57, w88_60, w88_61, w88_64, w88_65, w88_66, w88_69, w88_71, w88_72, w88_75, w88_76, w88_79, w88_81, w88_82, w88_83, w88_84, w88_87, w88_90, w88_92, w88_93, w88_96, w88_99, w88_100, w88_103, w88_106, w88_107, w88_108, w88_111, w88_112, ks_0, ks_24, b6, q0, nI_le (Nat.le_refl i) hd, c_put u1 (show g < kl (24 + 1) by rw [v1]; omega) (by rw [v1]; omega), ↓reduceIte, Option.toList_some, Option.toList_none, List.cons_append, List.nil_append]
    rfl
  | succ k ih =>
    intro i x v5 hi hx
    have h1 : ¬ nI d ≤ nI i := nI_ge (by omega) hd
    have ht := w6 (3 * x + 0) (by omega)
    rw [w88_54]
    by_cases hb : (andn (n (6 + g)) (n 19)).testBit (c (13 + (3 * x + 0))) = true
    · have e : nwS c (andn (n (6 + g)) (n 19)) x = c (13 + (3 * x + 0)) := if_pos hb
      have ih := ih (i + 1) _ (some (.int (nI (c (13 + (3 * x + 0)))))) (by omega) (nwS_lt hw (o := andn (n (6 + g)) (n 19)) hx)
      rw [e] at ih
      simp only [w88_0, w88_1, w88_4, w88_5, w88_8, w88_11, w88_13, w88_14, w88_15, w88_16, w88_19, w88_20, w88_22, w88_25, w88_27, w88_28, w88_29, w88_32, w88_33, w88_36, w88_39, w88_40, w88_43, w88_46, w88_47, w88_50, w88_51, w88_52, w88_56, w88_57, w88_60, w88_61, w88_64, w88_65, w88_66, w88_69, w88_71, w88_72, w88_75, w88_76, w88_79, w88_81, w88_82, w88_83, w88_84, w88_87, w88_90, w88_92, w88_93, w88_96, w88_99, w88_100, w88_103, w88_106, w88_107, w88_108, w88_111, w88_112, ks_0, ks_24, kP, b4, b6, h1, c_endOf hC hw hx (show 0 < 3 by omega), c_openTo hN w2 hg, nI_bit ho (show c (13 + (3 * x + 0)) < 32 by omega), hb, nI_ne1, nI_add, ↓reduceIte, Option.toList_some, Option.toList_none, List.cons_append, List.nil_append]
      rw [ih]
      show _ = Q (some (.int (nI (nwN c _ k (nwS c _ x))))) (dm_up σ 25 g (.int (nI (nwN c _ k (nwS c _ x)))))
      rw [e]
    · have e : nwS c (andn (n (6 + g)) (n 19)) x = x := if_neg hb
      rw [nwN_fix e]
      simp only [w88_0, w88_1, w88_4, w88_5, w88_8, w88_11, w88_13, w88_14, w88_15, w88_16, w88_19, w88_20, w88_22, w88_25, w88_27, w88_28, w88_29, w88_32, w88_33, w88_36, w88_39, w88_40, w88_43, w88_46, w88_47, w88_50, w88_51, w88_52, w88_56, w88_57, w88_60, w88_61, w88_64, w88_65, w88_66, w88_69, w88_71, w88_72, w88_75, w88_76, w88_79, w88_81, w88_82, w88_83, w88_84, w88_87, w88_90, w88_92, w88_93, w88_96, w88_99, w88_100, w88_103, w88_106, w88_107, w88_108, w88_111, w88_112, ks_0, ks_24, kP, b4, b6, q0, h1, c_endOf hC hw hx (show 0 < 3 by omega), c_openTo hN w2 hg, nI_bit ho (show c (13 + (3 * x + 0)) < 32 by omega), hb, c_put u1 (show g < kl (24 + 1) by rw [v1]; omega) (by rw [v1]; omega), ↓reduceIte, Option.toList_some, Option.toList_none, List.cons_append, List.nil_append, Bool.false_eq_true]
theorem l_mNw {g d : Nat} (hw : WC c) (hwn : WN c n) (hg : g < c 2) (hd : d < 2 ^ 31) : ∀ (k i x : Nat) (v4 : Option Value) (ρ : dm_G), i + k = d → x < c 0 → MR ρ → MC ρ c → MN ρ (up1 n g x) → (∀ ρ', (∀ a b, ¬ (a = 121 ∧ b = g) → ρ' a b = ρ a b) → MN ρ' (up1 n g (nwN c (andn (n (6 + g)) (n 19)) k x)) → Q (some (.int (nI (nwN c (andn (n (6 + g)) (n 19)) k x)))) ρ') → Wq none 172 32 [some (.ref (118 : Nat)), some (.int (nI g)), some (.int (nI d)), some (.int (nI i)), v4] [] ρ Q := by
  have w2 := hw.2.1
  have ho := andn_lt31 hw hwn hg
  have z0 : ∀ x, nI 0 + nI x = nI x := fun x => by rw [nI_add, Nat.zero_add]
  intro k
  induction k with
  | zero =>
    intro i x v4 ρ hi hx hM hc hn hq
    obtain ⟨m0, m1, m2, m3, m5, m6, m8, m11, m12, m14, m22, m23, m24, m25, m29, m30, m31, m32⟩ := id hM
    obtain rfl : i = d := by omega
    have e1 : gi ρ 121 g = nI x := by rw [hn g (by omega), up1_eq]
    rw [w172_32]
    simp only [w172_0, w172_1, w172_2, w172_5, w172_8, w172_10, w172_11, w172_12, w172_13, w172_14, w172_17, w172_20, w172_23, w172_25, w172_26, w172_27, w172_30, w172_31, w172_33, w172_34, w172_37, w172_38, w172_39, w172_42, w172_43, w172_44, w172_45, w172_46, w172_47, w172_50, w172_52, w172_53, w172_56, w172_57, w172_58, w172_59, w172_60, w172_61, w172_64, w172_66, w172_69, w172_72, w172_74, w172_77, w172_78, w172_81, w172_82, w172_83, w172_84, w172_85, w172_86, w172_89, w172_92, w172_93, w172_96, w172_97, w172_98, w172_99, w172_100, ks_118, m2, kt_121, nI_le (Nat.le_refl i) hd, z0, in_nI (show g < kl 121 by rw [kl_121]; omega) (by rw [kl_121]; omega), nI_clamp (show g < 2 ^ 31 by omega), e1, ↓reduceIte, Option.toList_some, Option.toList_none, List.cons_append, List.nil_append]
    exact hq ρ (fun a b _ => rfl) hn
  | succ k ih =>
    intro i x v4 ρ hi hx hM hc hn hq
    obtain ⟨m0, m1, m2, m3, m5, m6, m8, m11, m12, m14, m22, m23, m24, m25, m29, m30, m31, m32⟩ := id hM
    have h1 : ¬ nI d ≤ nI i := nI_ge (by omega) hd
    have w0 := hw.1
    have ht := hw.2.2.2.2.2.1 (3 * x + 0) (by omega)
    have e1 : gi ρ 121 g = nI x := by rw [hn g (by omega), up1_eq]
    have e2 := fun Q => c_open (Q := Q) hM hn (show g < 6 by omega)
    rw [up1_ne (by omega), up1_ne (by omega)] at e2
    have ih := fun v4 => ih (i + 1) (nwS c (andn (n (6 + g)) (n 19)) x) v4 (dm_up ρ 121 g (.int (nI (nwS c (andn (n (6 + g)) (n 19)) x)))) (by omega) (nwS_lt hw hx) hM hc (by have := MN_up (i := g) (v := nwS c (andn (n (6 + g)) (n 19)) x) hn; rwa [up1_up1] at this) (fun ρ' h1 h2 => hq ρ' (fun a b z => (h1 a b z).trans (by rw [up_get, if_neg z])) h2)
    rw [w172_32]
    by_cases hb : (andn (n (6 + g)) (n 19)).testBit (c (13 + (3 * x + 0))) = true
    · have e : nwS c (andn (n (6 + g)) (n 19)) x = c (13 + (3 * x + 0)) := if_pos hb
      rw [e] at ih
      simp only [w172_0, w172_1, w172_2, w172_5, w172_8, w172_10, w172_11, w172_12, w172_13, w172_14, w172_17, w172_20, w172_23, w172_25, w172_26, w172_27, w172_30, w172_31, w172_33, w172_34, w172_37, w172_38, w172_39, w172_42, w172_43, w172_44, w172_45, w172_46, w172_47, w172_50, w172_52, w172_53, w172_56, w172_57, w172_58, w172_59, w172_60, w172_61, w172_64, w172_66, w172_69, w172_72, w172_74, w172_77, w172_78, w172_81, w172_82, w172_83, w172_84, w172_85, w172_86, w172_89, w172_92, w172_93, w172_96, w172_97, w172_98, w172_99, w172_100, ks_118, m2, kt_121, h1, z0, in_nI (show g < kl 121 by rw [kl_121]; omega) (by rw [kl_121]; omega), nI_clamp (show g < 2 ^ 31 by omega), e1, c_turned hM hc (show 13 + (3 * x + 0) < 79 by omega), e2, c_has ho (show c (13 + (3 * x + 0)) < 32 by omega), hb, nI_ne1, nI_add, ↓reduceIte, Option.toList_some, Option.toList_none, List.cons_append, List.nil_append]
      exact ih _
    · have e : nwS c (andn (n (6 + g)) (n 19)) x = x := if_neg hb
      rw [e] at ih
      simp only [w172_0, w172_1, w172_2, w172_5, w172_8, w172_10, w172_11, w172_12, w172_13, w172_14, w172_17, w172_20, w172_23, w172_25, w172_26, w172_27, w172_30, w172_31, w172_33, w172_34, w172_37, w172_38, w172_39, w172_42, w172_43, w172_44, w172_45, w172_46, w172_47, w172_50, w172_52, w172_53, w172_56, w172_57, w172_58, w172_59, w172_60, w172_61, w172_64, w172_66, w172_69, w172_72, w172_74, w172_77, w172_78, w172_81, w172_82, w172_83, w172_84, w172_85, w172_86, w172_89, w172_92, w172_93, w172_96, w172_97, w172_98, w172_99, w172_100, ks_118, m2, kt_121, h1, z0, in_nI (show g < kl 121 by rw [kl_121]; omega) (by rw [kl_121]; omega), nI_clamp (show g < 2 ^ 31 by omega), e1, c_turned hM hc (show 13 + (3 * x + 0) < 79 by omega), e2, c_has ho (show c (13 + (3 * x + 0)) < 32 by omega), hb, nI_add, ↓reduceIte, Option.toList_some, Option.toList_none, List.cons_append, List.nil_append, Bool.false_eq_true]
      exact ih _
theorem pr_nowhere (x y : Int32) (hI : Inv σ) : Pr Inv 88 172 [.int x, .int y] σ := by
  obtain ⟨c, n, k, p, q, im, h, hs, ht, m, bg, bx, L, tx, f, s, hWA, hCA, hMA⟩ := id hI; obtain ⟨hw, hwn, ⟨hk16, hkp⟩, ⟨hq4, hqi⟩, ⟨hh9, hhs, hht⟩, ⟨hm15, hmb⟩, ⟨hL240, htx⟩, hs31⟩ := id hWA; obtain ⟨⟨P, D, hPD, hB, hC, hD⟩, hN, hPa, hIm, hHe, hBk, hTx, hF, hS, hSc⟩ := id hCA; obtain ⟨hM, hc, hn, hmP, hmI, hmH, hmB, hmT, hmF, hmS⟩ := id hMA
  obtain ⟨b0, b3, b4, b5, b6, b7, b8, b9, b10, b11, b12⟩ := id hB
  obtain ⟨w0, w2, w3, w4, w5, w6, w7, w8, w9⟩ := id hw
  obtain ⟨m0, m1, m2, m3, m5, m6, m8, m11, m12, m14, m22, m23, m24, m25, m29, m30, m31, m32⟩ := id hM
  obtain ⟨⟨kP, ⟨t1, l1⟩, ⟨t2, l2⟩, ⟨t3, l3⟩, ⟨t4, l4⟩, ⟨t5, l5⟩, ⟨t6, l6⟩, ⟨t7, l7⟩, ⟨t8, l8⟩, ⟨t9, l9⟩⟩, ⟨r1, r2, r3, r4, r5, r6, r7, r8, r9⟩, ⟨i0, i2, i3, i4⟩, f1, f2, f3, f4, f5, f6, f7⟩ := id hC
  obtain ⟨⟨kS, ⟨u1, v1⟩, ⟨u2, v2⟩, ⟨u3, v3⟩⟩, ⟨q0, q1, q2⟩, ⟨j3, j4, j5, j6⟩, jf⟩ := id hN
  rcases ix_cs x (show c 2 < 2 ^ 31 by omega) with ⟨g, hg, rfl⟩ | ⟨hx, hx2⟩
  · by_cases hy : ∃ j, 1 ≤ j ∧ j ≤ 20 ∧ y = nI j
    · obtain ⟨d, hd1, hd2, rfl⟩ := hy
      have hin : lN 1 ≤ (nI d).toInt64 ∧ (nI d).toInt64 ≤ lN 20 := (in_ok2 (x := nI d) (show 20 < 2 ^ 30 by omega) (show 1 < 2 ^ 30 by omega)).mpr ⟨d, hd1, hd2, rfl⟩
      have a1 : ¬ nI d < nI 1 := nI_nlt hd1 (by omega)
      have a2 : nI d ≤ nI 20 := nI_le hd2 (by omega)
      obtain ⟨τ1, e1, hCA1, k1⟩ := c_keepA hWA hCA
      obtain ⟨⟨P', D', -, hB1, hC1, -⟩, hN1, -⟩ := id hCA1
      have gx := (hwn.1 g hg).1
      have z1 : τ1 0 5 = (.ref (24 : Nat)) := hB1.2.2.2.2.1
      have z2 : τ1 24 0 = .ref (24 + 1) := hN1.2.1.1
      have ca := fun Q => c_at (σ := τ1) (Q := Q) u1 (show g < kl (24 + 1) by rw [v1]; omega) (by rw [v1]; omega)
      rw [(hN1.2.2.2 g hg).1] at ca
      have cl := fun Q => l_cNw (Q := Q) hB1 hC1 hN1 hw hwn hg (show d < 2 ^ 31 by omega) d 0 (n g) none (by omega) gx
      have hX := nwN_lt hw (o := andn (n (6 + g)) (n 19)) d (n g) gx
      have hCA2 := CA_u (g := g) (i := 0) (v := nwN c (andn (n (6 + g)) (n 19)) d (n g)) w2 (by omega) (by omega) hCA1
      rw [show 6 * 0 + g = g by omega] at hCA2
      have lo : ∀ a b, 118 ≤ a → dm_up τ1 25 g (.int (nI (nwN c (andn (n (6 + g)) (n 19)) d (n g)))) a b = σ a b := fun a b z => (up_hi (by omega) a b z).trans (k1 a b z)
      have hMA2 := MA_lo hMA lo
      obtain ⟨τ4, e4, hMA4, k4⟩ := c_rememberA hWA hMA2
      obtain ⟨hM2, hc2, hn2, -⟩ := id hMA2
      obtain ⟨hM4, hc4, hn4, -⟩ := id hMA4
      have W5 := WA_now (WA_push hWA) (WN_g (i := 0) (g := g) (v := nwN c (andn (n (6 + g)) (n 19)) d (n g)) hwn hw hg (by omega) (fun _ => hX) (by omega) (by omega))
      rw [show 6 * 0 + g = g by omega] at W5
      refine pr_ex (Er_ex ?_)
      show Wq none 88 0 [some (.ref (0 : Nat)), some (.int (nI g)), some (.int (nI d)), none, none, none] [] σ _
      simp only [w88_0, w88_1, w88_4, w88_5, w88_8, w88_11, w88_13, w88_14, w88_15, w88_16, w88_19, w88_20, w88_22, w88_25, w88_27, w88_28, w88_29, w88_32, w88_33, w88_36, w88_39, w88_40, w88_43, w88_46, w88_47, w88_50, w88_51, w88_52, w88_56, w88_57, w88_60, w88_61, w88_64, w88_65, w88_66, w88_69, w88_71, w88_72, w88_75, w88_76, w88_79, w88_81, w88_82, w88_83, w88_84, w88_87, w88_90, w88_92, w88_93, w88_96, w88_99, w88_100, w88_103, w88_106, w88_107, w88_108, w88_111, w88_112, ks_0, ks_24, ks_28, kP, b4, b6, b7, c_hasGuide hC hg hw, nI_ne1, a1, a2, e1, z1, z2, ca, cl, ↓reduceIte, Option.toList_some, Option.toList_none, List.cons_append, List.nil_append]
      refine ⟨_, rfl, Er_ex ?_⟩
      show Wq none 172 0 [some (.ref (118 : Nat)), some (.int (nI g)), some (.int (nI d)), none, none] [] _ _
      simp only [w172_0, w172_1, w172_2, w172_5, w172_8, w172_10, w172_11, w172_12, w172_13, w172_14, w172_17, w172_20, w172_23, w172_25, w172_26, w172_27, w172_30, w172_31, w172_33, w172_34, w172_37, w172_38, w172_39, w172_42, w172_43, w172_44, w172_45, w172_46, w172_47, w172_50, w172_52, w172_53, w172_56, w172_57, w172_58, w172_59, w172_60, w172_61, w172_64, w172_66, w172_69, w172_72, w172_74, w172_77, w172_78, w172_81, w172_82, w172_83, w172_84, w172_85, w172_86, w172_89, w172_92, w172_93, w172_96, w172_97, w172_98, w172_99, w172_100, ks_118, c_isGuide (x := nI g) hM2 hc2 hw ⟨g, hg, rfl⟩, nI_ne1, c_in, hin, e4, ↓reduceIte, Option.toList_some, Option.toList_none, List.cons_append, List.nil_append]
      refine l_mNw hw hwn hg (show d < 2 ^ 31 by omega) d 0 (n g) none τ4 (by omega) gx hM4 hc4 (by rw [up1_self]; exact hn4) (fun ρ' h1 h2 => ⟨rfl, ?_⟩)
      exact inv_mk W5 hCA2 (fun a b z => (h1 a b (by omega)).trans (k4 a b z)) (MA_now hMA4 (fun a b z => h1 a b (by omega)) h2)
    · have hin : ¬ (lN 1 ≤ y.toInt64 ∧ y.toInt64 ≤ lN 20) := fun q => hy ((in_ok2 (x := y) (show 20 < 2 ^ 30 by omega) (show 1 < 2 ^ 30 by omega)).mp q)
      have hin2 := hin
      rw [Int64.le_iff_toInt_le, Int64.le_iff_toInt_le, Int32.toInt_toInt64, lN_toInt (show 1 < 2 ^ 31 by omega), lN_toInt (show 20 < 2 ^ 31 by omega)] at hin2
      refine pr_of (v := -1000000002) (σ1 := σ) (σ2 := σ) (fun Q => Cq_of (Er_of ?_)) (fun Q => Cq_of (Er_of ?_)) hI
      · show Wq none 88 0 [some (.ref (0 : Nat)), some (.int (nI g)), some (.int y), none, none, none] [] σ _
        by_cases a1 : y < nI 1
        · simp only [w88_0, w88_1, w88_4, w88_5, w88_8, w88_11, w88_13, w88_14, w88_15, w88_16, w88_19, w88_20, w88_22, w88_25, w88_27, w88_28, w88_29, w88_32, w88_33, w88_36, w88_39, w88_40, w88_43, w88_46, w88_47, w88_50, w88_51, w88_52, w88_56, w88_57, w88_60, w88_61, w88_64, w88_65, w88_66, w88_69, w88_71, w88_72, w88_75, w88_76, w88_79, w88_81, w88_82, w88_83, w88_84, w88_87, w88_90, w88_92, w88_93, w88_96, w88_99, w88_100, w88_103, w88_106, w88_107, w88_108, w88_111, w88_112, ks_0, kP, b4, c_hasGuide hC hg hw, nI_ne1, a1, ↓reduceIte, Option.toList_some, Option.toList_none, List.cons_append, List.nil_append, and_self]
        · have a2 : ¬ y ≤ nI 20 := fun z => by
            rw [Int32.lt_iff_toInt_lt, nI_toInt (by omega)] at a1
            rw [Int32.le_iff_toInt_le, nI_toInt (by omega)] at z
            omega
          simp only [w88_0, w88_1, w88_4, w88_5, w88_8, w88_11, w88_13, w88_14, w88_15, w88_16, w88_19, w88_20, w88_22, w88_25, w88_27, w88_28, w88_29, w88_32, w88_33, w88_36, w88_39, w88_40, w88_43, w88_46, w88_47, w88_50, w88_51, w88_52, w88_56, w88_57, w88_60, w88_61, w88_64, w88_65, w88_66, w88_69, w88_71, w88_72, w88_75, w88_76, w88_79, w88_81, w88_82, w88_83, w88_84, w88_87, w88_90, w88_92, w88_93, w88_96, w88_99, w88_100, w88_103, w88_106, w88_107, w88_108, w88_111, w88_112, ks_0, kP, b4, c_hasGuide hC hg hw, nI_ne1, a1, a2, ↓reduceIte, Option.toList_some, Option.toList_none, List.cons_append, List.nil_append, and_self]
      · show Wq none 172 0 [some (.ref (118 : Nat)), some (.int (nI g)), some (.int y), none, none] [] σ _
        simp only [w172_0, w172_1, w172_2, w172_5, w172_8, w172_10, w172_11, w172_12, w172_13, w172_14, w172_17, w172_20, w172_23, w172_25, w172_26, w172_27, w172_30, w172_31, w172_33, w172_34, w172_37, w172_38, w172_39, w172_42, w172_43, w172_44, w172_45, w172_46, w172_47, w172_50, w172_52, w172_53, w172_56, w172_57, w172_58, w172_59, w172_60, w172_61, w172_64, w172_66, w172_69, w172_72, w172_74, w172_77, w172_78, w172_81, w172_82, w172_83, w172_84, w172_85, w172_86, w172_89, w172_92, w172_93, w172_96, w172_97, w172_98, w172_99, w172_100, ks_118, c_isGuide (x := nI g) hM hc hw ⟨g, hg, rfl⟩, nI_ne1, c_in, hin, ↓reduceIte, Option.toList_some, Option.toList_none, List.cons_append, List.nil_append, and_self]
  · refine pr_of (v := -1000000001) (σ1 := σ) (σ2 := σ) (fun Q => Cq_of (Er_of ?_)) (fun Q => Cq_of (Er_of ?_)) hI
    · show Wq none 88 0 [some (.ref (0 : Nat)), some (.int x), some (.int y), none, none, none] [] σ _
      simp only [w88_0, w88_1, w88_4, w88_5, w88_8, w88_11, w88_13, w88_14, w88_15, w88_16, w88_19, w88_20, w88_22, w88_25, w88_27, w88_28, w88_29, w88_32, w88_33, w88_36, w88_39, w88_40, w88_43, w88_46, w88_47, w88_50, w88_51, w88_52, w88_56, w88_57, w88_60, w88_61, w88_64, w88_65, w88_66, w88_69, w88_71, w88_72, w88_75, w88_76, w88_79, w88_81, w88_82, w88_83, w88_84, w88_87, w88_90, w88_92, w88_93, w88_96, w88_99, w88_100, w88_103, w88_106, w88_107, w88_108, w88_111, w88_112, ks_0, kP, b4, c_hasGuide_f hC hx, ↓reduceIte, Option.toList_some, Option.toList_none, List.cons_append, List.nil_append, and_self]
    · show Wq none 172 0 [some (.ref (118 : Nat)), some (.int x), some (.int y), none, none] [] σ _
      simp only [w172_0, w172_1, w172_2, w172_5, w172_8, w172_10, w172_11, w172_12, w172_13, w172_14, w172_17, w172_20, w172_23, w172_25, w172_26, w172_27, w172_30, w172_31, w172_33, w172_34, w172_37, w172_38, w172_39, w172_42, w172_43, w172_44, w172_45, w172_46, w172_47, w172_50, w172_52, w172_53, w172_56, w172_57, w172_58, w172_59, w172_60, w172_61, w172_64, w172_66, w172_69, w172_72, w172_74, w172_77, w172_78, w172_81, w172_82, w172_83, w172_84, w172_85, w172_86, w172_89, w172_92, w172_93, w172_96, w172_97, w172_98, w172_99, w172_100, ks_118, c_isGuide_f hM hc hw hx2, ↓reduceIte, Option.toList_some, Option.toList_none, List.cons_append, List.nil_append, and_self]
-- nights
theorem CA_nt {v : Nat} (hG : c 2 ≤ 6) (hCA : CA c n k p q im h hs ht m bg bx L tx f s σ) : CA c (up1 (up1 n 20 v) 18 0) k p q im h hs ht m bg bx L tx f s (dm_up (dm_up σ 24 5 (.int (nI v))) 24 4 (.int (nI 0))) := CA_f (b := 4) (i := 18) hG (by omega) (CA_f (b := 5) (i := 20) hG (by omega) hCA)
theorem ngF_MN {j : Nat} (hj : 1 ≤ j) (hn : MN σ n) : MN (ngF σ n j) (up1 (up1 n 20 (n 20 + j)) 18 0) := by
  rw [ngF, if_neg (by omega)]
  have h1 := MN_up (i := 20) (v := n 20 + j) (MN_up (i := 18) (v := 0) hn)
  have e : up1 (up1 n 18 0) 20 (n 20 + j) = up1 (up1 n 20 (n 20 + j)) 18 0 := by
    funext a
    unfold up1
    by_cases z : a = 20
    · rw [if_pos z, if_neg (by omega), if_pos z]
    · rw [if_neg z, if_neg z]
  rwa [e] at h1
theorem pr_night (x : Int32) (hI : Inv σ) : Pr Inv 86 168 [.int x] σ := by
  obtain ⟨c, n, k, p, q, im, h, hs, ht, m, bg, bx, L, tx, f, s, hWA, hCA, hMA⟩ := id hI; obtain ⟨hw, hwn, ⟨hk16, hkp⟩, ⟨hq4, hqi⟩, ⟨hh9, hhs, hht⟩, ⟨hm15, hmb⟩, ⟨hL240, htx⟩, hs31⟩ := id hWA; obtain ⟨⟨P, D, hPD, hB, hC, hD⟩, hN, hPa, hIm, hHe, hBk, hTx, hF, hS, hSc⟩ := id hCA; obtain ⟨hM, hc, hn, hmP, hmI, hmH, hmB, hmT, hmF, hmS⟩ := id hMA
  obtain ⟨b0, b3, b4, b5, b6, b7, b8, b9, b10, b11, b12⟩ := id hB
  obtain ⟨w0, w2, w3, w4, w5, w6, w7, w8, w9⟩ := id hw
  obtain ⟨hn1, hn18, hn19, hn20, hn21⟩ := id hwn
  by_cases hx : ∃ j, 1 ≤ j ∧ j ≤ 60 ∧ x = nI j
  · obtain ⟨j, h1, h2, rfl⟩ := hx
    by_cases hr : rfN c n = nI 0
    · obtain ⟨τ1, e1, hCA1, k1⟩ := c_keepA hWA hCA
      obtain ⟨⟨P', D', -, hB1, hC1, -⟩, hN1, -⟩ := id hCA1
      have h9 : n 20 ≤ 9000 := by
        unfold rfN at hr
        split at hr
        · exact absurd hr (by decide)
        · split at hr
          · assumption
          · exact absurd hr (by decide)
      have z1 : τ1 0 5 = (.ref (24 : Nat)) := hB1.2.2.2.2.1
      have hCA2 := CA_nt (v := n 20 + j) w2 hCA1
      have lo : ∀ a b, 118 ≤ a → dm_up (dm_up τ1 24 5 (.int (nI (n 20 + j)))) 24 4 (.int (nI 0)) a b = σ a b := fun a b z => (up_hi (by omega) a b z).trans ((up_hi (by omega) a b z).trans (k1 a b z))
      have hMA2 := MA_lo hMA lo
      obtain ⟨τ4, e4, hMA4, k4⟩ := c_rememberA hWA hMA2
      obtain ⟨hM2, hc2, hn2, -⟩ := id hMA2
      obtain ⟨hM4, hc4, hn4, -⟩ := id hMA4
      have y1 : dm_up (dm_up τ1 24 5 (.int (nI (n 20 + j)))) 24 4 (.int (nI 0)) 0 5 = (.ref (24 : Nat)) := z1
      have y2 : dm_up (dm_up τ1 24 5 (.int (nI (n 20 + j)))) 24 4 (.int (nI 0)) 24 5 = .int (nI (n 20 + j)) := rfl
      have ng : ∀ a b, ¬ (a = 121 ∧ (b = 18 ∨ b = 20)) → ngF τ4 n j a b = τ4 a b := fun a b z => by
        rw [ngF, if_neg (by omega), up_get, if_neg (by omega), up_get, if_neg (by omega)]
      have cl := fun Q v => l_mNight (Q := Q) (d := j) (v := v) (show j < 2 ^ 31 by omega) j 0 τ4 n (by omega) hM4 hn4
      refine pr_of (fun Q => Cq_of (Er_of (σ' := dm_up (dm_up τ1 24 5 (.int (nI (n 20 + j)))) 24 4 (.int (nI 0))) (r := some (.int (nI (n 20 + j)))) ?_)) (fun Q => Cq_of (Er_of (σ' := ngF τ4 n j) ?_)) (inv_mk (WA_now (WA_push hWA) (WN_nt (v := n 20 + j) hwn hw (by omega))) hCA2 (fun a b z => (ng a b (by omega)).trans (k4 a b z)) (MA_now hMA4 (fun a b z => ng a b (by omega)) (ngF_MN h1 hn4)))
      · show Wq none 86 0 [some (.ref (0 : Nat)), some (.int (nI j)), none] [] σ _
        simp only [w86_0, w86_1, w86_2, w86_5, w86_6, w86_7, w86_10, w86_11, w86_12, w86_13, w86_16, w86_17, w86_20, w86_23, w86_24, w86_27, w86_28, w86_31, w86_32, w86_35, w86_38, ks_0, ks_24, ks_28, b6, b7, c_refusal hB hC hN hw (show n 20 < 2 ^ 31 by omega) h1 h2, hr, e1, z1, c_passNights hN1, y1, y2, ↓reduceIte, Option.toList_some, Option.toList_none, List.cons_append, List.nil_append, and_self]
      · show Wq none 168 0 [some (.ref (118 : Nat)), some (.int (nI j)), none, none] [] _ _
        simp only [w168_0, w168_1, w168_2, w168_5, w168_6, w168_7, w168_10, w168_11, w168_12, w168_13, w168_16, w168_17, w168_19, w168_20, w168_23, w168_24, w168_27, w168_30, w168_33, w168_34, w168_37, w168_39, w168_40, ks_118, c_refuses hM2 hc2 hn2 hw (show n 20 < 2 ^ 31 by omega) h1 h2, hr, e4, cl, ↓reduceIte, Option.toList_some, Option.toList_none, List.cons_append, List.nil_append, and_self]
    · exact pr_of (fun Q => c_night_r hB hC hN hw (show n 20 < 2 ^ 31 by omega) h1 h2 hr) (fun Q => c_mNight_r hM hc hn hw (show n 20 < 2 ^ 31 by omega) h1 h2 hr) hI
  · exact pr_of (fun Q => c_night_f hx) (fun Q => c_mNight_f hx) hI
end WL
