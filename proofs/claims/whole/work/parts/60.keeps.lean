/-! undone, seed, images, the book, text: both sides -/
theorem in_no {x : Int32} {N : Nat} (hN : N < 2 ^ 29) (hx : ¬ ∃ j, j < N + 1 ∧ x = nI j) : ¬ (lN 0 ≤ x.toInt64 ∧ x.toInt64 ≤ lN N) := fun q => by
  obtain ⟨j, -, h4, rfl⟩ := (in_ok2 (x := x) (show N < 2 ^ 30 by omega) (show 0 < 2 ^ 30 by omega)).mp q
  exact hx ⟨j, by omega, rfl⟩
theorem in_yes {j N : Nat} (hN : N < 2 ^ 29) (hj : j ≤ N) : lN 0 ≤ (nI j).toInt64 ∧ (nI j).toInt64 ≤ lN N := (in_ok2 (x := nI j) (show N < 2 ^ 30 by omega) (show 0 < 2 ^ 30 by omega)).mpr ⟨j, by omega, hj, rfl⟩
theorem nlt_le {x : Int32} {N : Nat} (h0 : ¬ x < nI 0) (hx : x < 0 ∨ nI N ≤ x) : ¬ x < nI N := fun q => by
  have h3 := hx.resolve_left h0
  rw [Int32.le_iff_toInt_le] at h3
  rw [Int32.lt_iff_toInt_lt] at q
  omega
theorem nle_le {x : Int32} {N : Nat} (hN : N + 1 < 2 ^ 31) (h0 : ¬ x < nI 0) (hx : x < 0 ∨ nI (N + 1) ≤ x) : ¬ x ≤ nI N := fun q => by
  have h3 := hx.resolve_left h0
  rw [Int32.le_iff_toInt_le, nI_toInt (by omega)] at h3 q
  omega
theorem nn_ex {x : Int32} (h : ¬ x < 0) : ∃ v, v < 2 ^ 31 ∧ x = nI v := by
  rw [Int32.lt_iff_toInt_lt] at h
  have h0 : (0 : Int32).toInt = 0 := rfl
  have hx := Int32.toInt_lt x
  refine ⟨x.toInt.toNat, by omega, Int32.toInt_inj.mp ?_⟩
  rw [nI_toInt (by omega)]
  omega
section KE
variable {σ σ' : dm_G} {Q : Option Value → dm_G → Prop} {S G : Nat} {c n : Nat → Nat} {k : Nat} {p : Nat → Nat → Nat} {q : Nat} {im : Nat → Nat → Nat} {h : Nat} {hs ht : Nat → Nat} {m : Nat} {bg bx : Nat → Nat} {L : Nat} {tx : Nat → Nat} {f : Int32} {s : Nat}
-- undo
theorem pr_undo (hI : Inv σ) : Pr Inv 92 178 [] σ := by
  obtain ⟨c, n, k, p, q, im, h, hs, ht, m, bg, bx, L, tx, f, s, hWA, hCA, hMA⟩ := id hI; obtain ⟨hw, hwn, ⟨hk16, hkp⟩, ⟨hq4, hqi⟩, ⟨hh9, hhs, hht⟩, ⟨hm15, hmb⟩, ⟨hL240, htx⟩, hs31⟩ := id hWA; obtain ⟨⟨P, D, hPD, hB, hC, hD⟩, hN, hPa, hIm, hHe, hBk, hTx, hF, hS, hSc⟩ := id hCA; obtain ⟨hM, hc, hn, hmP, hmI, hmH, hmB, hmT, hmF, hmS⟩ := id hMA
  obtain ⟨w0, w2, w3, w4, w5, w6, w7, w8, w9⟩ := id hw
  obtain ⟨u, hu, hP, hSR, hp⟩ := id hPa
  cases k with
  | zero => exact pr_of (fun Q => c_undo0 hB hP) (fun Q => c_mUndo0 hmP.1) hI
  | succ k =>
    have hw16 : (u + 15) % 16 < 16 := by omega
    have h0 := hp 0 (by omega)
    rw [Nat.sub_zero] at h0
    have eC := fun Q => c_undo (Q := Q) hB hP hu (show k < 16 by omega) SK_24 hN.2.1 (fun i hi => ⟨SK_p i hi, hSR i hi⟩) (CN_iN h0)
    have ku : ∀ a b, ¬ ((24 ≤ a ∧ a < 28) ∨ a = 28) → ubF σ u k a b = σ a b := fun a b z => by
      unfold ubF
      rw [be_out (by omega), up_get, if_neg (by omega), up_get, if_neg (by omega)]
    have kv : ∀ a b, ¬ (24 ≤ a ∧ a < 28) → ubF σ u k a b = dm_up (dm_up σ 28 1 (.int (nI ((u + 15) % 16)))) 28 2 (.int (nI k)) a b := fun a b z => by
      unfold ubF
      rw [be_out (by omega)]
    have hN' : CN (ubF σ u k) 24 (c 2) (p 0) := be_CN SK_24 hN.2.1 w2 (CN_of (fun i b hi => by rw [up_get, if_neg (by omega), up_get, if_neg (by omega)]) h0) (Or.inl (by omega))
    have hCA2 : CA c (p 0) k (fun i => p (i + 1)) q im h hs ht m bg bx L tx f s (ubF σ u k) := by
      refine ⟨cPl_of (fun a b z => ku a b (by omega)) ⟨P, D, hPD, hB, hC, hD⟩, hN', ⟨(u + 15) % 16, hw16, ⟨?_, ?_, ?_, ?_⟩, ?_, ?_⟩, cIm_of (fun a b z => ku a b (by omega)) hIm, cHe_of (fun a b z => ku a b (by omega)) hHe, CBk_of (fun a b z => ku a b (by omega)) hBk, cTx_of (fun a b z => ku a b (by omega)) hTx, (ku _ _ (by omega)).trans hF, (ku _ _ (by omega)).trans hS, cSc_of (fun a b z => ku a b (by omega)) hSc⟩
      · rw [kv _ _ (by omega)]; exact hP.1
      · rw [kv _ _ (by omega)]; rfl
      · rw [kv _ _ (by omega)]; rfl
      · intro i hi
        rw [kv _ _ (by omega), up_get, if_neg (by omega), up_get, if_neg (by omega)]
        exact hP.2.2.2 i hi
      · intro i hi
        refine SR_of (fun b => ?_) (hSR i hi)
        rw [kv _ _ (by omega), up_get, if_neg (by omega), up_get, if_neg (by omega)]
      · intro i hi
        rw [show ((u + 15) % 16 + 15 - i) % 16 = (u + 15 - (i + 1)) % 16 by omega]
        refine CN_of (fun j b hj => ?_) (hp (i + 1) (by omega))
        rw [kv _ _ (by omega), up_get, if_neg (by omega), up_get, if_neg (by omega)]
    have lo : ∀ a b, 118 ≤ a → ubF σ u k a b = σ a b := fun a b z => ku a b (by omega)
    have hMA2 := MA_lo hMA lo
    obtain ⟨gM, gc, gn, gP, gI, gH, gB, gT, gF, gS⟩ := id hMA2
    have km : ∀ a b, ¬ (a = 121 ∨ (a = 118 ∧ b = 4)) → unF (ubF σ u k) k a b = ubF σ u k a b := fun a b z => by
      unfold unF cpL
      rw [if_neg (by omega), up_get, if_neg (by omega)]
    have hMA3 : MA c (p 0) k (fun i => p (i + 1)) q im h hs ht m bg bx L tx f s (unF (ubF σ u k) k) := by
      refine ⟨MR_k (fun a b z => km a b (by omega)) gM, MC_k (fun a b z => km a b (by omega)) gc, ?_, ⟨?_, ?_⟩, mIm_k (fun a b z => km a b (by omega)) gI, MH_k (fun a b z => km a b (by omega)) gH, MB_k (fun a b z => km a b (by omega)) gB, mTx_k (fun a b z => km a b (by omega)) gT, (km _ _ (by omega)).trans gF, (km _ _ (by omega)).trans gS⟩
      · intro i hi
        have h1 := gP.2 0 (by omega) i hi
        rw [show 22 * (k + 1 - 1 - 0) + i = 22 * k + i by omega] at h1
        unfold unF gi cpL
        rw [if_pos ⟨rfl, Nat.zero_le _, by omega⟩, Nat.sub_zero]
        show gi (dm_up (ubF σ u k) 118 4 _) 122 (22 * k + i) = _
        rw [gi_up, if_neg (by omega)]
        exact h1
      · unfold unF cpL
        rw [if_neg (by omega)]
        rfl
      · intro i hi j hj
        have h1 := gP.2 (i + 1) (by omega) j hj
        rw [show 22 * (k + 1 - 1 - (i + 1)) + j = 22 * (k - 1 - i) + j by omega] at h1
        rw [gi_of (km _ _ (by omega))]
        exact h1
    refine pr_of eC (fun Q => c_mUndo gM gP.1 (by omega)) (inv_mk (s := s) ⟨hw, hkp 0 (by omega), ⟨by omega, fun i hi => hkp (i + 1) (by omega)⟩, ⟨hq4, hqi⟩, ⟨hh9, hhs, hht⟩, ⟨hm15, hmb⟩, ⟨hL240, htx⟩, hs31⟩ hCA2 (fun a b z => km a b (by omega)) hMA3)
-- seed
theorem pr_seed (x : Int32) (hI : Inv σ) : Pr Inv 116 203 [.int x] σ := by
  obtain ⟨c, n, k, p, q, im, h, hs, ht, m, bg, bx, L, tx, f, s, hWA, hCA, hMA⟩ := id hI; obtain ⟨hw, hwn, ⟨hk16, hkp⟩, ⟨hq4, hqi⟩, ⟨hh9, hhs, hht⟩, ⟨hm15, hmb⟩, ⟨hL240, htx⟩, hs31⟩ := id hWA; obtain ⟨⟨P, D, hPD, hB, hC, hD⟩, hN, hPa, hIm, hHe, hBk, hTx, hF, hS, hSc⟩ := id hCA; obtain ⟨hM, hc, hn, hmP, hmI, hmH, hmB, hmT, hmF, hmS⟩ := id hMA
  by_cases hx : x < 0
  · have hx1 : ¬ nI 0 ≤ x := fun q => by
      rw [Int32.le_iff_toInt_le, show (nI 0).toInt = 0 from rfl] at q
      rw [Int32.lt_iff_toInt_lt, show (0 : Int32).toInt = 0 from rfl] at hx
      omega
    refine pr_of (v := -1000000002) (σ1 := σ) (σ2 := σ) (fun Q => Cq_of (Er_of ?_)) (fun Q => Cq_of (Er_of ?_)) hI
    · show Wq none 116 0 [some (.ref (0 : Nat)), some (.int x), none] [] σ _
      simp only [w116_0, w116_1, w116_4, w116_6, w116_7, w116_8, w116_11, w116_12, w116_13, w116_14, w116_17, w116_18, hx1, ↓reduceIte, Option.toList_some, Option.toList_none, List.cons_append, List.nil_append, and_self]
    · show Wq none 203 0 [some (.ref (118 : Nat)), some (.int x), none] [] σ _
      simp only [w203_0, w203_1, w203_4, w203_6, w203_7, w203_8, w203_11, w203_12, w203_13, w203_14, w203_15, w203_16, w203_19, w203_20, hx1, ↓reduceIte, Option.toList_some, Option.toList_none, List.cons_append, List.nil_append, and_self]
  · obtain ⟨v, hv, rfl⟩ := nn_ex hx
    have hx1 : nI 0 ≤ nI v := nI_pos' hv
    have hCA2 := CA_s (s' := v) hCA
    have hMA2 := MA_lo hMA (up_hi (a0 := 0) (b0 := 13) (v := .int (nI v)) (by omega))
    have hMA3 := MA_s (s' := v) hMA2
    have gS := hMA2.2.2.2.2.2.2.2.2.2
    refine pr_of (v := nI s) (σ1 := dm_up σ 0 13 (.int (nI v))) (σ2 := dm_up (dm_up σ 0 13 (.int (nI v))) 118 7 (.long (lN v))) (fun Q => Cq_of (Er_of ?_)) (fun Q => Cq_of (Er_of ?_)) (inv_mk (WA_s hWA hv) hCA2 (up_lo (by omega)) hMA3)
    · show Wq none 116 0 [some (.ref (0 : Nat)), some (.int (nI v)), none] [] σ _
      simp only [w116_0, w116_1, w116_4, w116_6, w116_7, w116_8, w116_11, w116_12, w116_13, w116_14, w116_17, w116_18, ks_0, hx1, hS, ↓reduceIte, Option.toList_some, Option.toList_none, List.cons_append, List.nil_append, and_self]
    · show Wq none 203 0 [some (.ref (118 : Nat)), some (.int (nI v)), none] [] _ _
      simp only [w203_0, w203_1, w203_4, w203_6, w203_7, w203_8, w203_11, w203_12, w203_13, w203_14, w203_15, w203_16, w203_19, w203_20, ks_118, hx1, gS, lN_i, nI_l hv, ↓reduceIte, Option.toList_some, Option.toList_none, List.cons_append, List.nil_append, and_self]
-- tear
theorem pr_tear (hI : Inv σ) : Pr Inv 114 201 [] σ := by
  obtain ⟨c, n, k, p, q, im, h, hs, ht, m, bg, bx, L, tx, f, s, hWA, hCA, hMA⟩ := id hI; obtain ⟨hw, hwn, ⟨hk16, hkp⟩, ⟨hq4, hqi⟩, ⟨hh9, hhs, hht⟩, ⟨hm15, hmb⟩, ⟨hL240, htx⟩, hs31⟩ := id hWA; obtain ⟨⟨P, D, hPD, hB, hC, hD⟩, hN, hPa, hIm, hHe, hBk, hTx, hF, hS, hSc⟩ := id hCA; obtain ⟨hM, hc, hn, hmP, hmI, hmH, hmB, hmT, hmF, hmS⟩ := id hMA
  obtain ⟨b0, b3, b4, b5, b6, b7, b8, b9, b10, b11, b12⟩ := id hB
  obtain ⟨bk0, bk1, bk2, bk3⟩ := id hBk
  have kc : ∀ a b, ¬ ((a = 105 ∧ b < 2) ∨ (a = 107 ∧ b = 0)) → dm_up (dm_up (dm_up σ 105 0 (.int (-1))) 105 1 (.int (nI 0))) 107 0 (.int (nI 0)) a b = σ a b := fun a b z => by
    rw [up_get, if_neg (by omega), up_get, if_neg (by omega), up_get, if_neg (by omega)]
  have hCA2 : CA c n k p q im 0 hs ht 0 bg bx L tx f s (dm_up (dm_up (dm_up σ 105 0 (.int (-1))) 105 1 (.int (nI 0))) 107 0 (.int (nI 0))) := by
    refine ⟨cPl_of (fun a b z => kc a b (by omega)) ⟨P, D, hPD, hB, hC, hD⟩, cNo_of (fun a b z => kc a b (by omega)) hN, cPa_of (fun a b z => kc a b (by omega)) hPa, cIm_of (fun a b z => kc a b (by omega)) hIm, ⟨(kc _ _ (by omega)).trans hHe.1, fun _ => ⟨rfl, rfl⟩, fun z => absurd z (by omega)⟩, ⟨rfl, (kc _ _ (by omega)).trans bk1, (kc _ _ (by omega)).trans bk2, fun i hi => absurd hi (by omega)⟩, cTx_of (fun a b z => kc a b (by omega)) hTx, (kc _ _ (by omega)).trans hF, (kc _ _ (by omega)).trans hS, cSc_of (fun a b z => kc a b (by omega)) hSc⟩
  have hMA2 := MA_lo hMA (fun a b z => kc a b (by omega))
  generalize hτ : dm_up (dm_up (dm_up σ 105 0 (.int (-1))) 105 1 (.int (nI 0))) 107 0 (.int (nI 0)) = τ at hCA2 hMA2 kc
  obtain ⟨gM, gc, gn, gP, gI, gH, gB, gT, gF, gS⟩ := id hMA2
  have km : ∀ a b, ¬ (a = 118 ∧ (b = 15 ∨ b = 13)) → dm_up (dm_up τ 118 15 (.int (nI 0))) 118 13 (.int (nI 0)) a b = τ a b := fun a b z => by
    rw [up_get, if_neg (by omega), up_get, if_neg (by omega)]
  have hMA3 : MA c n k p q im 0 hs ht 0 bg bx L tx f s (dm_up (dm_up τ 118 15 (.int (nI 0))) 118 13 (.int (nI 0))) := ⟨MR_k (fun a b z => km a b (by omega)) gM, MC_k (fun a b z => km a b (by omega)) gc, MN_k (fun a b z => km a b (by omega)) gn, mPa_k (fun a b z => km a b (by omega)) gP, mIm_k (fun a b z => km a b (by omega)) gI, ⟨rfl, fun i hi => absurd hi (by omega), fun i _ hi => absurd hi (by omega)⟩, ⟨rfl, fun i hi => absurd hi (by omega)⟩, mTx_k (fun a b z => km a b (by omega)) gT, (km _ _ (by omega)).trans gF, (km _ _ (by omega)).trans gS⟩
  refine pr_of (v := nI m) (σ1 := τ) (σ2 := dm_up (dm_up τ 118 15 (.int (nI 0))) 118 13 (.int (nI 0))) (fun Q => Cq_of (Er_of ?_)) (fun Q => Cq_of (Er_of ?_)) (inv_mk (s := s) ⟨hw, hwn, ⟨hk16, hkp⟩, ⟨hq4, hqi⟩, ⟨by omega, hhs, hht⟩, ⟨by omega, fun i hi => absurd hi (by omega)⟩, ⟨hL240, htx⟩, hs31⟩ hCA2 (fun a b z => km a b (by omega)) hMA3)
  · show Wq none 114 0 [some (.ref (0 : Nat)), none] [] σ _
    have x1 : dm_up (dm_up σ 105 0 (.int (-1))) 105 1 (.int (nI 0)) 0 10 = (.ref (107 : Nat)) := b10
    simp only [w114_0, w114_1, w114_4, w114_7, w114_8, w114_9, w114_12, w114_15, w114_16, w114_19, w114_22, w114_23, ks_0, ks_105, ks_107, b9, b10, bk0, c_heardClear, x1, c_bkClear, hτ, ↓reduceIte, Option.toList_some, Option.toList_none, List.cons_append, List.nil_append, and_self]
  · show Wq none 201 0 [some (.ref (118 : Nat)), none] [] _ _
    simp only [w201_0, w201_1, w201_4, w201_5, w201_6, w201_7, w201_10, w201_11, w201_12, w201_15, w201_16, ks_118, gB.1, ↓reduceIte, Option.toList_some, Option.toList_none, List.cons_append, List.nil_append, and_self]
-- write
theorem pr_write (x y : Int32) (hI : Inv σ) : Pr Inv 113 200 [.int x, .int y] σ := by
  obtain ⟨c, n, k, p, q, im, h, hs, ht, m, bg, bx, L, tx, f, s, hWA, hCA, hMA⟩ := id hI; obtain ⟨hw, hwn, ⟨hk16, hkp⟩, ⟨hq4, hqi⟩, ⟨hh9, hhs, hht⟩, ⟨hm15, hmb⟩, ⟨hL240, htx⟩, hs31⟩ := id hWA; obtain ⟨⟨P, D, hPD, hB, hC, hD⟩, hN, hPa, hIm, hHe, hBk, hTx, hF, hS, hSc⟩ := id hCA; obtain ⟨hM, hc, hn, hmP, hmI, hmH, hmB, hmT, hmF, hmS⟩ := id hMA
  obtain ⟨b0, b3, b4, b5, b6, b7, b8, b9, b10, b11, b12⟩ := id hB
  obtain ⟨w0, w2, w3, w4, w5, w6, w7, w8, w9⟩ := id hw
  obtain ⟨m0, m1, m2, m3, m5, m6, m8, m11, m12, m14, m22, m23, m24, m25, m29, m30, m31, m32⟩ := id hM
  obtain ⟨⟨kP, ⟨t1, l1⟩, ⟨t2, l2⟩, ⟨t3, l3⟩, ⟨t4, l4⟩, ⟨t5, l5⟩, ⟨t6, l6⟩, ⟨t7, l7⟩, ⟨t8, l8⟩, ⟨t9, l9⟩⟩, ⟨r1, r2, r3, r4, r5, r6, r7, r8, r9⟩, ⟨i0, i2, i3, i4⟩, f1, f2, f3, f4, f5, f6, f7⟩ := id hC
  obtain ⟨bk0, bk1, bk2, bk3⟩ := id hBk
  rcases ix_cs x (show c 2 < 2 ^ 31 by omega) with ⟨g, hg, rfl⟩ | ⟨hx, hx2⟩
  · rcases ix_cs y (show c 0 < 2 ^ 31 by omega) with ⟨e, he, rfl⟩ | ⟨hy, hy2⟩
    · by_cases hm : m = 15
      · subst hm
        refine pr_of (v := -1000000004) (σ1 := σ) (σ2 := σ) (fun Q => Cq_of (Er_of ?_)) (fun Q => Cq_of (Er_of ?_)) hI
        · show Wq none 113 0 [some (.ref (0 : Nat)), some (.int (nI g)), some (.int (nI e))] [] σ _
          simp only [w113_0, w113_1, w113_4, w113_5, w113_8, w113_11, w113_12, w113_15, w113_16, w113_19, w113_22, w113_24, w113_25, w113_26, w113_29, w113_32, w113_34, w113_37, w113_39, w113_40, w113_41, w113_44, w113_45, w113_46, w113_49, w113_50, w113_53, w113_56, ks_0, ks_107, kP, b4, b10, bk0, c_hasGuide hC hg hw, c_hasCrossing hC he hw, nI_ne1, (by decide : ¬ nI 15 < nI 15), ↓reduceIte, Option.toList_some, Option.toList_none, List.cons_append, List.nil_append, and_self]
        · show Wq none 200 0 [some (.ref (118 : Nat)), some (.int (nI g)), some (.int (nI e))] [] σ _
          simp only [w200_0, w200_1, w200_2, w200_5, w200_8, w200_9, w200_10, w200_13, w200_16, w200_18, w200_19, w200_20, w200_23, w200_25, w200_28, w200_30, w200_31, w200_32, w200_35, w200_36, w200_37, w200_40, w200_41, w200_42, w200_43, w200_44, w200_47, w200_48, w200_49, w200_52, w200_53, w200_54, w200_55, w200_56, w200_57, w200_58, w200_58i, w200_59, w200_62, w200_63, w200_64, w200_67, w200_68, w200_71, ks_118, c_isGuide (x := nI g) hM hc hw ⟨g, hg, rfl⟩, c_isCrossing (x := nI e) hM hc hw ⟨e, he, rfl⟩, nI_ne1, hmB.1, ↓reduceIte, Option.toList_some, Option.toList_none, List.cons_append, List.nil_append, and_self]
      · have hm14 : m < 15 := by omega
        have h1 : nI m < nI 15 := (nI_ltI (by omega) (by omega)).mpr hm14
        have h2 : ¬ nI m = nI 15 := fun z => hm (nI_inj (by omega) (by omega) z)
        have kc : ∀ a b, ¬ ((107 < a ∧ a < 110) ∨ (a = 107 ∧ b = 0)) → dm_up (dm_up (dm_up σ 108 m (.int (nI g))) 109 m (.int (nI e))) 107 0 (.int (nI (m + 1))) a b = σ a b := fun a b z => by
          rw [up_get, if_neg (by omega), up_get, if_neg (by omega), up_get, if_neg (by omega)]
        have hCA2 : CA c n k p q im h hs ht (m + 1) (up1 bg m g) (up1 bx m e) L tx f s (dm_up (dm_up (dm_up σ 108 m (.int (nI g))) 109 m (.int (nI e))) 107 0 (.int (nI (m + 1)))) := by
          refine ⟨cPl_of (fun a b z => kc a b (by omega)) ⟨P, D, hPD, hB, hC, hD⟩, cNo_of (fun a b z => kc a b (by omega)) hN, cPa_of (fun a b z => kc a b (by omega)) hPa, cIm_of (fun a b z => kc a b (by omega)) hIm, cHe_of (fun a b z => kc a b (by omega)) hHe, ⟨rfl, (kc _ _ (by omega)).trans bk1, (kc _ _ (by omega)).trans bk2, fun i hi => ?_⟩, cTx_of (fun a b z => kc a b (by omega)) hTx, (kc _ _ (by omega)).trans hF, (kc _ _ (by omega)).trans hS, cSc_of (fun a b z => kc a b (by omega)) hSc⟩
          unfold up1
          by_cases z : i = m
          · constructor
            · rw [gi_up, if_neg (by omega), gi_up, if_neg (by omega), gi_up, if_pos ⟨rfl, z⟩, if_pos z]
            · rw [gi_up, if_neg (by omega), gi_up, if_pos ⟨rfl, z⟩, if_pos z]
          · constructor
            · rw [gi_up, if_neg (by omega), gi_up, if_neg (by omega), gi_up, if_neg (by omega), if_neg z]
              exact (bk3 i (by omega)).1
            · rw [gi_up, if_neg (by omega), gi_up, if_neg (by omega), gi_up, if_neg (by omega), if_neg z]
              exact (bk3 i (by omega)).2
        have hMA2 := MA_lo hMA (fun a b z => kc a b (by omega))
        generalize hτ : dm_up (dm_up (dm_up σ 108 m (.int (nI g))) 109 m (.int (nI e))) 107 0 (.int (nI (m + 1))) = τ at hCA2 hMA2 kc
        obtain ⟨gM, gc, gn, gP, gI, gH, gB, gT, gF, gS⟩ := id hMA2
        have km : ∀ a b, ¬ (a = 128 ∨ (a = 118 ∧ b = 15)) → dm_up (dm_up (dm_up τ 128 (2 * m) (.int (nI g))) 128 (2 * m + 1) (.int (nI e))) 118 15 (.int (nI (m + 1))) a b = τ a b := fun a b z => by
          rw [up_get, if_neg (by omega), up_get, if_neg (by omega), up_get, if_neg (by omega)]
        have hMA3 : MA c n k p q im h hs ht (m + 1) (up1 bg m g) (up1 bx m e) L tx f s (dm_up (dm_up (dm_up τ 128 (2 * m) (.int (nI g))) 128 (2 * m + 1) (.int (nI e))) 118 15 (.int (nI (m + 1)))) := by
          refine ⟨MR_k (fun a b z => km a b (by omega)) gM, MC_k (fun a b z => km a b (by omega)) gc, MN_k (fun a b z => km a b (by omega)) gn, mPa_k (fun a b z => km a b (by omega)) gP, mIm_k (fun a b z => km a b (by omega)) gI, MH_k (fun a b z => km a b (by omega)) gH, ⟨rfl, fun i hi => ?_⟩, mTx_k (fun a b z => km a b (by omega)) gT, (km _ _ (by omega)).trans gF, (km _ _ (by omega)).trans gS⟩
          unfold up1
          by_cases z : i = m
          · constructor
            · rw [gi_up, if_neg (by omega), gi_up, if_neg (by omega), gi_up, if_pos (by omega), if_pos z]
            · rw [gi_up, if_neg (by omega), gi_up, if_pos (by omega), if_pos z]
          · constructor
            · rw [gi_up, if_neg (by omega), gi_up, if_neg (by omega), gi_up, if_neg (by omega), if_neg z]
              exact (gB.2 i (by omega)).1
            · rw [gi_up, if_neg (by omega), gi_up, if_neg (by omega), gi_up, if_neg (by omega), if_neg z]
              exact (gB.2 i (by omega)).2
        have x1 : τ 0 10 = (.ref (107 : Nat)) := (kc _ _ (by omega)).trans b10
        have x2 : τ 107 0 = .int (nI (m + 1)) := hCA2.2.2.2.2.2.1.1
        have y1 : dm_up τ 128 (2 * m) (.int (nI g)) 118 14 = (.ref (128 : Nat)) := gM.2.2.2.2.2.2.2.2.2.1
        have y2 : dm_up τ 128 (2 * m) (.int (nI g)) 118 15 = .int (nI m) := gB.1
        have y3 : dm_up (dm_up τ 128 (2 * m) (.int (nI g))) 128 (2 * m + 1) (.int (nI e)) 118 15 = .int (nI m) := gB.1
        have y4 : dm_up (dm_up (dm_up τ 128 (2 * m) (.int (nI g))) 128 (2 * m + 1) (.int (nI e))) 118 15 (.int (nI (m + 1))) 118 15 = .int (nI (m + 1)) := rfl
        refine pr_of (v := nI (m + 1)) (σ1 := τ) (σ2 := dm_up (dm_up (dm_up τ 128 (2 * m) (.int (nI g))) 128 (2 * m + 1) (.int (nI e))) 118 15 (.int (nI (m + 1)))) (fun Q => Cq_of (Er_of ?_)) (fun Q => Cq_of (Er_of ?_)) (inv_mk (s := s) ⟨hw, hwn, ⟨hk16, hkp⟩, ⟨hq4, hqi⟩, ⟨hh9, hhs, hht⟩, ⟨by omega, fun i hi => ?_⟩, ⟨hL240, htx⟩, hs31⟩ hCA2 (fun a b z => km a b (by omega)) hMA3)
        · show Wq none 113 0 [some (.ref (0 : Nat)), some (.int (nI g)), some (.int (nI e))] [] σ _
          simp only [w113_0, w113_1, w113_4, w113_5, w113_8, w113_11, w113_12, w113_15, w113_16, w113_19, w113_22, w113_24, w113_25, w113_26, w113_29, w113_32, w113_34, w113_37, w113_39, w113_40, w113_41, w113_44, w113_45, w113_46, w113_49, w113_50, w113_53, w113_56, ks_0, ks_107, kP, b4, b10, bk0, c_hasGuide hC hg hw, c_hasCrossing hC he hw, nI_ne1, h1, c_bkAdd hBk (show m < kl 108 by rw [kl_108]; omega) (show m < kl 109 by rw [kl_109]; omega) (by rw [kl_108]; omega) (by rw [kl_109]; omega), hτ, x1, x2, ↓reduceIte, Option.toList_some, Option.toList_none, List.cons_append, List.nil_append, and_self]
        · show Wq none 200 0 [some (.ref (118 : Nat)), some (.int (nI g)), some (.int (nI e))] [] τ _
          simp only [w200_0, w200_1, w200_2, w200_5, w200_8, w200_9, w200_10, w200_13, w200_16, w200_18, w200_19, w200_20, w200_23, w200_25, w200_28, w200_30, w200_31, w200_32, w200_35, w200_36, w200_37, w200_40, w200_41, w200_42, w200_43, w200_44, w200_47, w200_48, w200_49, w200_52, w200_53, w200_54, w200_55, w200_56, w200_57, w200_58, w200_58i, w200_59, w200_62, w200_63, w200_64, w200_67, w200_68, w200_71, ks_118, c_isGuide (x := nI g) gM gc hw ⟨g, hg, rfl⟩, c_isCrossing (x := nI e) gM gc hw ⟨e, he, rfl⟩, nI_ne1, gB.1, h2, gM.2.2.2.2.2.2.2.2.2.1, kt_128, pk_mul, nI_add, in_nI (show 2 * m < kl 128 by rw [kl_128]; omega) (by rw [kl_128]; omega), nI_clamp (show 2 * m < 2 ^ 31 by omega), in_nI (show 2 * m + 1 < kl 128 by rw [kl_128]; omega) (by rw [kl_128]; omega), nI_clamp (show 2 * m + 1 < 2 ^ 31 by omega), y1, y2, y3, y4, ↓reduceIte, Option.toList_some, Option.toList_none, List.cons_append, List.nil_append, and_self]
        · unfold up1
          split
          · exact ⟨hg, he⟩
          · exact hmb i (by omega)
    · refine pr_of (v := -1000000001) (σ1 := σ) (σ2 := σ) (fun Q => Cq_of (Er_of ?_)) (fun Q => Cq_of (Er_of ?_)) hI
      · show Wq none 113 0 [some (.ref (0 : Nat)), some (.int (nI g)), some (.int y)] [] σ _
        simp only [w113_0, w113_1, w113_4, w113_5, w113_8, w113_11, w113_12, w113_15, w113_16, w113_19, w113_22, w113_24, w113_25, w113_26, w113_29, w113_32, w113_34, w113_37, w113_39, w113_40, w113_41, w113_44, w113_45, w113_46, w113_49, w113_50, w113_53, w113_56, ks_0, kP, b4, c_hasGuide hC hg hw, c_hasCrossing_f hC hy, nI_ne1, ↓reduceIte, Option.toList_some, Option.toList_none, List.cons_append, List.nil_append, and_self]
      · show Wq none 200 0 [some (.ref (118 : Nat)), some (.int (nI g)), some (.int y)] [] σ _
        simp only [w200_0, w200_1, w200_2, w200_5, w200_8, w200_9, w200_10, w200_13, w200_16, w200_18, w200_19, w200_20, w200_23, w200_25, w200_28, w200_30, w200_31, w200_32, w200_35, w200_36, w200_37, w200_40, w200_41, w200_42, w200_43, w200_44, w200_47, w200_48, w200_49, w200_52, w200_53, w200_54, w200_55, w200_56, w200_57, w200_58, w200_58i, w200_59, w200_62, w200_63, w200_64, w200_67, w200_68, w200_71, ks_118, c_isGuide (x := nI g) hM hc hw ⟨g, hg, rfl⟩, c_isCrossing_f hM hc hw hy2, nI_ne1, ↓reduceIte, Option.toList_some, Option.toList_none, List.cons_append, List.nil_append, and_self]
  · refine pr_of (v := -1000000001) (σ1 := σ) (σ2 := σ) (fun Q => Cq_of (Er_of ?_)) (fun Q => Cq_of (Er_of ?_)) hI
    · show Wq none 113 0 [some (.ref (0 : Nat)), some (.int x), some (.int y)] [] σ _
      simp only [w113_0, w113_1, w113_4, w113_5, w113_8, w113_11, w113_12, w113_15, w113_16, w113_19, w113_22, w113_24, w113_25, w113_26, w113_29, w113_32, w113_34, w113_37, w113_39, w113_40, w113_41, w113_44, w113_45, w113_46, w113_49, w113_50, w113_53, w113_56, ks_0, kP, b4, c_hasGuide_f hC hx, ↓reduceIte, Option.toList_some, Option.toList_none, List.cons_append, List.nil_append, and_self]
    · show Wq none 200 0 [some (.ref (118 : Nat)), some (.int x), some (.int y)] [] σ _
      simp only [w200_0, w200_1, w200_2, w200_5, w200_8, w200_9, w200_10, w200_13, w200_16, w200_18, w200_19, w200_20, w200_23, w200_25, w200_28, w200_30, w200_31, w200_32, w200_35, w200_36, w200_37, w200_40, w200_41, w200_42, w200_43, w200_44, w200_47, w200_48, w200_49, w200_52, w200_53, w200_54, w200_55, w200_56, w200_57, w200_58, w200_58i, w200_59, w200_62, w200_63, w200_64, w200_67, w200_68, w200_71, ks_118, c_isGuide_f hM hc hw hx2, ↓reduceIte, Option.toList_some, Option.toList_none, List.cons_append, List.nil_append, and_self]
-- feed
theorem pr_feed (x : Int32) (hI : Inv σ) : Pr Inv 76 131 [.int x] σ := by
  obtain ⟨c, n, k, p, q, im, h, hs, ht, m, bg, bx, L, tx, f, s, hWA, hCA, hMA⟩ := id hI; obtain ⟨hw, hwn, ⟨hk16, hkp⟩, ⟨hq4, hqi⟩, ⟨hh9, hhs, hht⟩, ⟨hm15, hmb⟩, ⟨hL240, htx⟩, hs31⟩ := id hWA; obtain ⟨⟨P, D, hPD, hB, hC, hD⟩, hN, hPa, hIm, hHe, hBk, hTx, hF, hS, hSc⟩ := id hCA; obtain ⟨hM, hc, hn, hmP, hmI, hmH, hmB, hmT, hmF, hmS⟩ := id hMA
  obtain ⟨b0, b3, b4, b5, b6, b7, b8, b9, b10, b11, b12⟩ := id hB
  obtain ⟨m0, m1, m2, m3, m5, m6, m8, m11, m12, m14, m22, m23, m24, m25, m29, m30, m31, m32⟩ := id hM
  rcases ix_cs x (show 256 < 2 ^ 31 by omega) with ⟨e, he, rfl⟩ | ⟨hx, hx2⟩
  · have a1 : ¬ nI e < nI 0 := nI_pos (by omega)
    have a2 : nI e ≤ nI 255 := nI_le (by omega) (by omega)
    have hin := in_yes (j := e) (N := 255) (by omega) (by omega)
    by_cases hm : L = 240
    · subst hm
      refine pr_of (v := -1000000004) (σ1 := σ) (σ2 := σ) (fun Q => Cq_of (Er_of ?_)) (fun Q => Cq_of (Er_of ?_)) hI
      · show Wq none 76 0 [some (.ref (0 : Nat)), some (.int (nI e))] [] σ _
        simp only [w76_0, w76_1, w76_4, w76_5, w76_8, w76_11, w76_13, w76_14, w76_15, w76_18, w76_21, w76_24, w76_26, w76_27, w76_28, w76_31, w76_32, w76_35, w76_36, w76_39, w76_40, w76_40i, w76_41, w76_44, w76_45, w76_46, w76_49, w76_50, w76_53, ks_0, a1, a2, hTx.1, (by decide : ¬ nI 240 < nI 240), ↓reduceIte, Option.toList_some, Option.toList_none, List.cons_append, List.nil_append, and_self]
      · show Wq none 131 0 [some (.ref (118 : Nat)), some (.int (nI e))] [] σ _
        simp only [w131_0, w131_1, w131_2, w131_3, w131_6, w131_9, w131_12, w131_14, w131_15, w131_16, w131_19, w131_22, w131_25, w131_27, w131_28, w131_29, w131_32, w131_33, w131_36, w131_37, w131_38, w131_39, w131_39i, w131_40, w131_43, w131_44, w131_45, w131_48, w131_49, w131_52, ks_118, c_in, hin, nI_ne1, hmT.1, ↓reduceIte, Option.toList_some, Option.toList_none, List.cons_append, List.nil_append, and_self]
    · have h1 : nI L < nI 240 := (nI_ltI (by omega) (by omega)).mpr (by omega)
      have h2 : ¬ nI L = nI 240 := fun z => hm (nI_inj (by omega) (by omega) z)
      have kc : ∀ a b, ¬ (a = 1 ∨ (a = 0 ∧ b = 1)) → dm_up (dm_up σ 1 L (.int (nI e))) 0 1 (.int (nI (L + 1))) a b = σ a b := fun a b z => by
        rw [up_get, if_neg (by omega), up_get, if_neg (by omega)]
      have hCA2 : CA c n k p q im h hs ht m bg bx (L + 1) (up1 tx L e) f s (dm_up (dm_up σ 1 L (.int (nI e))) 0 1 (.int (nI (L + 1)))) := by
        refine ⟨cPl_of (fun a b z => kc a b (by omega)) ⟨P, D, hPD, hB, hC, hD⟩, cNo_of (fun a b z => kc a b (by omega)) hN, cPa_of (fun a b z => kc a b (by omega)) hPa, cIm_of (fun a b z => kc a b (by omega)) hIm, cHe_of (fun a b z => kc a b (by omega)) hHe, CBk_of (fun a b z => kc a b (by omega)) hBk, ⟨rfl, fun i hi => ?_⟩, (kc _ _ (by omega)).trans hF, (kc _ _ (by omega)).trans hS, cSc_of (fun a b z => kc a b (by omega)) hSc⟩
        rw [gi_up, if_neg (by omega), gi_up]
        unfold up1
        by_cases z : i = L
        · rw [if_pos ⟨rfl, z⟩, if_pos z]
        · rw [if_neg (fun w => z w.2), if_neg z]
          exact hTx.2 i (by omega)
      have hMA2 := MA_lo hMA (fun a b z => kc a b (by omega))
      generalize hτ : dm_up (dm_up σ 1 L (.int (nI e))) 0 1 (.int (nI (L + 1))) = τ at hCA2 hMA2 kc
      obtain ⟨gM, gc, gn, gP, gI, gH, gB, gT, gF, gS⟩ := id hMA2
      have km : ∀ a b, ¬ (a = 125 ∨ (a = 118 ∧ b = 9)) → dm_up (dm_up τ 125 L (.int (nI e))) 118 9 (.int (nI (L + 1))) a b = τ a b := fun a b z => by
        rw [up_get, if_neg (by omega), up_get, if_neg (by omega)]
      have hMA3 : MA c n k p q im h hs ht m bg bx (L + 1) (up1 tx L e) f s (dm_up (dm_up τ 125 L (.int (nI e))) 118 9 (.int (nI (L + 1)))) := by
        refine ⟨MR_k (fun a b z => km a b (by omega)) gM, MC_k (fun a b z => km a b (by omega)) gc, MN_k (fun a b z => km a b (by omega)) gn, mPa_k (fun a b z => km a b (by omega)) gP, mIm_k (fun a b z => km a b (by omega)) gI, MH_k (fun a b z => km a b (by omega)) gH, MB_k (fun a b z => km a b (by omega)) gB, ⟨rfl, fun i hi => ?_⟩, (km _ _ (by omega)).trans gF, (km _ _ (by omega)).trans gS⟩
        rw [gi_up, if_neg (by omega), gi_up]
        unfold up1
        by_cases z : i = L
        · rw [if_pos ⟨rfl, z⟩, if_pos z]
        · rw [if_neg (fun w => z w.2), if_neg z]
          exact gT.2 i (by omega)
      have x0 : dm_up σ 1 L (.int (nI e)) 0 1 = .int (nI L) := hTx.1
      have x1 : τ 0 1 = .int (nI (L + 1)) := hCA2.2.2.2.2.2.2.1.1
      have y2 : dm_up τ 125 L (.int (nI e)) 118 9 = .int (nI L) := gT.1
      have y3 : dm_up (dm_up τ 125 L (.int (nI e))) 118 9 (.int (nI (L + 1))) 118 9 = .int (nI (L + 1)) := rfl
      refine pr_of (v := nI (L + 1)) (σ1 := τ) (σ2 := dm_up (dm_up τ 125 L (.int (nI e))) 118 9 (.int (nI (L + 1)))) (fun Q => Cq_of (Er_of ?_)) (fun Q => Cq_of (Er_of ?_)) (inv_mk (s := s) ⟨hw, hwn, ⟨hk16, hkp⟩, ⟨hq4, hqi⟩, ⟨hh9, hhs, hht⟩, ⟨hm15, hmb⟩, ⟨by omega, fun i hi => ?_⟩, hs31⟩ hCA2 (fun a b z => km a b (by omega)) hMA3)
      · show Wq none 76 0 [some (.ref (0 : Nat)), some (.int (nI e))] [] σ _
        simp only [w76_0, w76_1, w76_4, w76_5, w76_8, w76_11, w76_13, w76_14, w76_15, w76_18, w76_21, w76_24, w76_26, w76_27, w76_28, w76_31, w76_32, w76_35, w76_36, w76_39, w76_40, w76_40i, w76_41, w76_44, w76_45, w76_46, w76_49, w76_50, w76_53, ks_0, a1, a2, hTx.1, h1, b0, c_put kt_1 (show L < kl 1 by rw [kl_1]; omega) (by rw [kl_1]; omega), x0, nI_add, hτ, x1, ↓reduceIte, Option.toList_some, Option.toList_none, List.cons_append, List.nil_append, and_self]
      · show Wq none 131 0 [some (.ref (118 : Nat)), some (.int (nI e))] [] τ _
        simp only [w131_0, w131_1, w131_2, w131_3, w131_6, w131_9, w131_12, w131_14, w131_15, w131_16, w131_19, w131_22, w131_25, w131_27, w131_28, w131_29, w131_32, w131_33, w131_36, w131_37, w131_38, w131_39, w131_39i, w131_40, w131_43, w131_44, w131_45, w131_48, w131_49, w131_52, ks_118, c_in, hin, nI_ne1, gT.1, h2, gM.2.2.2.2.2.2.1, kt_125, in_nI (show L < kl 125 by rw [kl_125]; omega) (by rw [kl_125]; omega), nI_clamp (show L < 2 ^ 31 by omega), y2, nI_add, y3, ↓reduceIte, Option.toList_some, Option.toList_none, List.cons_append, List.nil_append, and_self]
      · unfold up1
        split
        · exact he
        · exact htx i (by omega)
  · have hin := in_no (x := x) (N := 255) (by omega) hx2
    refine pr_of (v := -1000000002) (σ1 := σ) (σ2 := σ) (fun Q => Cq_of (Er_of ?_)) (fun Q => Cq_of (Er_of ?_)) hI
    · show Wq none 76 0 [some (.ref (0 : Nat)), some (.int x)] [] σ _
      by_cases h0 : x < nI 0
      · simp only [w76_0, w76_1, w76_4, w76_5, w76_8, w76_11, w76_13, w76_14, w76_15, w76_18, w76_21, w76_24, w76_26, w76_27, w76_28, w76_31, w76_32, w76_35, w76_36, w76_39, w76_40, w76_40i, w76_41, w76_44, w76_45, w76_46, w76_49, w76_50, w76_53, ks_0, h0, ↓reduceIte, Option.toList_some, Option.toList_none, List.cons_append, List.nil_append, and_self]
      · simp only [w76_0, w76_1, w76_4, w76_5, w76_8, w76_11, w76_13, w76_14, w76_15, w76_18, w76_21, w76_24, w76_26, w76_27, w76_28, w76_31, w76_32, w76_35, w76_36, w76_39, w76_40, w76_40i, w76_41, w76_44, w76_45, w76_46, w76_49, w76_50, w76_53, ks_0, h0, nle_le (N := 255) (by omega) h0 hx, ↓reduceIte, Option.toList_some, Option.toList_none, List.cons_append, List.nil_append, and_self]
    · show Wq none 131 0 [some (.ref (118 : Nat)), some (.int x)] [] σ _
      simp only [w131_0, w131_1, w131_2, w131_3, w131_6, w131_9, w131_12, w131_14, w131_15, w131_16, w131_19, w131_22, w131_25, w131_27, w131_28, w131_29, w131_32, w131_33, w131_36, w131_37, w131_38, w131_39, w131_39i, w131_40, w131_43, w131_44, w131_45, w131_48, w131_49, w131_52, ks_118, c_in, hin, ↓reduceIte, Option.toList_some, Option.toList_none, List.cons_append, List.nil_append, and_self]
end KE
