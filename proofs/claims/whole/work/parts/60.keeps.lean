/-! undone, seed, images, the book, text: both sides -/
theorem in_no {x : Int32} {N : Nat} (hN : N < 2 ^ 29) (hx : ¬ ∃ j, j < N + 1 ∧ x = nI j) : ¬ (lN 0 ≤ x.toInt64 ∧ x.toInt64 ≤ lN N) := fun q => by
  obtain ⟨j, -, h4, rfl⟩ := (in_ok2 (x := x) (show N < 2 ^ 30 by omega) (show 0 < 2 ^ 30 by omega)).mp q
  exact hx ⟨j, by omega, rfl⟩
theorem in_yes {j N : Nat} (hN : N < 2 ^ 29) (hj : j ≤ N) : lN 0 ≤ (nI j).toInt64 ∧ (nI j).toInt64 ≤ lN N := (in_ok2 (x := nI j) (show N < 2 ^ 30 by omega) (show 0 < 2 ^ 30 by omega)).mpr ⟨j, by omega, hj, rfl⟩
theorem nlt_le {x : Int32} {N : Nat} (h0 : ¬ x < nI 0) (hx : x < 0 ∨ nI N ≤ x) : ¬ x < nI N := fun q => by
  have h3 := hx.resolve_left h0
  rw [Int32.le_iff_toInt_le] at h3
  rw [Int32.lt_iff_toInt_lt] at q
  omega
theorem nle_le {x : Int32} {N : Nat} (hN : N + 1 < 2 ^ 31) (h0 : ¬ x < nI 0) (hx : x < 0 ∨ nI (N + 1) ≤ x) : ¬ x ≤ nI N := fun q => by
  have h3 := hx.resolve_left h0
  rw [Int32.le_iff_toInt_le, nI_toInt (by omega)] at h3 q
  omega
theorem nn_ex {x : Int32} (h : ¬ x < 0) : ∃ v, v < 2 ^ 31 ∧ x = nI v := by
  rw [Int32.lt_iff_toInt_lt] at h
  have h0 : (0 : Int32).toInt = 0 := rfl
  have hx := Int32.toInt_lt x
  refine ⟨x.toInt.toNat, by omega, Int32.toInt_inj.mp ?_⟩
  rw [nI_toInt (by omega)]
  omega
section KE
variable {σ σ' : dm_G} {Q : Option Value → dm_G → Prop} {S G : Nat} {c n : Nat → Nat} {k : Nat} {p : Nat → Nat → Nat} {q : Nat} {im : Nat → Nat → Nat} {h : Nat} {hs ht : Nat → Nat} {m : Nat} {bg bx : Nat → Nat} {L : Nat} {tx : Nat → Nat} {f : Int32} {s : Nat}
-- undo
theorem pr_undo (hI : Inv σ) : Pr Inv 93 179 [] σ := by
  obtain ⟨c, n, k, p, q, im, h, hs, ht, m, bg, bx, L, tx, f, s, hWA, hCA, hMA⟩ := id hI; obtain ⟨hw, hwn, ⟨hk16, hkp⟩, ⟨hq4, hqi⟩, ⟨hh9, hhs, hht⟩, ⟨hm15, hmb⟩, ⟨hL240, htx⟩, hs31⟩ := id hWA; obtain ⟨⟨P, D, hPD, hB, hC, hD⟩, hN, hPa, hIm, hHe, hBk, hTx, hF, hS, hSc⟩ := id hCA; obtain ⟨hM, hc, hn, hmP, hmI, hmH, hmB, hmT, hmF, hmS⟩ := id hMA
  obtain ⟨w0, w2, w3, w4, w5, w6, w7, w8, w9⟩ := id hw
  obtain ⟨u, hu, hP, hSR, hp⟩ := id hPa
  cases k with
  | zero => exact pr_of (fun Q => c_undo0 hB hP) (fun Q => c_mUndo0 hmP.1) hI
  | succ k =>
    have hw16 : (u + 15) % 16 < 16 := by omega
    have h0 := hp 0 (by omega)
    rw [Nat.sub_zero] at h0
    have eC := fun Q => c_undo (Q := Q) hB hP hu (show k < 16 by omega) SK_24 hN.2.1 (fun i hi => ⟨SK_p i hi, hSR i hi⟩) (CN_iN h0)
    have ku : ∀ a b, ¬ ((24 ≤ a ∧ a < 28) ∨ a = 28) → ubF σ u k a b = σ a b := fun a b z => by
      unfold ubF
      rw [be_out (by omega), up_get, if_neg (by omega), up_get, if_neg (by omega)]
    have kv : ∀ a b, ¬ (24 ≤ a ∧ a < 28) → ubF σ u k a b = dm_up (dm_up σ 28 1 (.int (nI ((u + 15) % 16)))) 28 2 (.int (nI k)) a b := fun a b z => by
      unfold ubF
      rw [be_out (by omega)]
    have hN' : CN (ubF σ u k) 24 (c 2) (p 0) := be_CN SK_24 hN.2.1 w2 (CN_of (fun i b hi => by rw [up_get, if_neg (by omega), up_get, if_neg (by omega)]) h0) (Or.inl (by omega))
    have hCA2 : CA c (p 0) k (fun i => p (i + 1)) q im h hs ht m bg bx L tx f s (ubF σ u k) := by
      refine ⟨cPl_of (fun a b z => ku a b (by omega)) ⟨P, D, hPD, hB, hC, hD⟩, hN', ⟨(u + 15) % 16, hw16, ⟨?_, ?_, ?_, ?_⟩, ?_, ?_⟩, cIm_of (fun a b z => ku a b (by omega)) hIm, cHe_of (fun a b z => ku a b (by omega)) hHe, CBk_of (fun a b z => ku a b (by omega)) hBk, cTx_of (fun a b z => ku a b (by omega)) hTx, (ku _ _ (by omega)).trans hF, (ku _ _ (by omega)).trans hS, cSc_of (fun a b z => ku a b (by omega)) hSc⟩
      · rw [kv _ _ (by omega)]; exact hP.1
      · rw [kv _ _ (by omega)]; rfl
      · rw [kv _ _ (by omega)]; rfl
      · intro i hi
        rw [kv _ _ (by omega), up_get, if_neg (by omega), up_get, if_neg (by omega)]
        exact hP.2.2.2 i hi
      · intro i hi
        refine SR_of (fun b => ?_) (hSR i hi)
        rw [kv _ _ (by omega), up_get, if_neg (by omega), up_get, if_neg (by omega)]
      · intro i hi
        rw [show ((u + 15) % 16 + 15 - i) % 16 = (u + 15 - (i + 1)) % 16 by omega]
        refine CN_of (fun j b hj => ?_) (hp (i + 1) (by omega))
        rw [kv _ _ (by omega), up_get, if_neg (by omega), up_get, if_neg (by omega)]
    have lo : ∀ a b, 118 ≤ a → ubF σ u k a b = σ a b := fun a b z => ku a b (by omega)
    have hMA2 := MA_lo hMA lo
    obtain ⟨gM, gc, gn, gP, gI, gH, gB, gT, gF, gS⟩ := id hMA2
    have km : ∀ a b, ¬ (a = 121 ∨ (a = 118 ∧ b = 4)) → unF (ubF σ u k) k a b = ubF σ u k a b := fun a b z => by
      unfold unF cpL
      rw [if_neg (by omega), up_get, if_neg (by omega)]
    have hMA3 : MA c (p 0) k (fun i => p (i + 1)) q im h hs ht m bg bx L tx f s (unF (ubF σ u k) k) := by
      refine ⟨MR_k (fun a b z => km a b (by omega)) gM, MC_k (fun a b z => km a b (by omega)) gc, ?_, ⟨?_, ?_⟩, mIm_k (fun a b z => km a b (by omega)) gI, MH_k (fun a b z => km a b (by omega)) gH, MB_k (fun a b z => km a b (by omega)) gB, mTx_k (fun a b z => km a b (by omega)) gT, (km _ _ (by omega)).trans gF, (km _ _ (by omega)).trans gS⟩
      · intro i hi
        have h1 := gP.2 0 (by omega) i hi
        rw [show 22 * (k + 1 - 1 - 0) + i = 22 * k + i by omega] at h1
        unfold unF gi cpL
        rw [if_pos ⟨rfl, Nat.zero_le _, by omega⟩, Nat.sub_zero]
        show gi (dm_up (ubF σ u k) 118 4 _) 122 (22 * k + i) = _
        rw [gi_up, if_neg (by omega)]
        exact h1
      · unfold unF cpL
        rw [if_neg (by omega)]
        rfl
      · intro i hi j hj
        have h1 := gP.2 (i + 1) (by omega) j hj
        rw [show 22 * (k + 1 - 1 - (i + 1)) + j = 22 * (k - 1 - i) + j by omega] at h1
        rw [gi_of (km _ _ (by omega))]
        exact h1
    refine pr_of eC (fun Q => c_mUndo gM gP.1 (by omega)) (inv_mk (s := s) ⟨hw, hkp 0 (by omega), ⟨by omega, fun i hi => hkp (i + 1) (by omega)⟩, ⟨hq4, hqi⟩, ⟨hh9, hhs, hht⟩, ⟨hm15, hmb⟩, ⟨hL240, htx⟩, hs31⟩ hCA2 (fun a b z => km a b (by omega)) hMA3)
-- seed
theorem pr_seed (x : Int32) (hI : Inv σ) : Pr Inv 117 204 [.int x] σ := by
  obtain ⟨c, n, k, p, q, im, h, hs, ht, m, bg, bx, L, tx, f, s, hWA, hCA, hMA⟩ := id hI; obtain ⟨hw, hwn, ⟨hk16, hkp⟩, ⟨hq4, hqi⟩, ⟨hh9, hhs, hht⟩, ⟨hm15, hmb⟩, ⟨hL240, htx⟩, hs31⟩ := id hWA; obtain ⟨⟨P, D, hPD, hB, hC, hD⟩, hN, hPa, hIm, hHe, hBk, hTx, hF, hS, hSc⟩ := id hCA; obtain ⟨hM, hc, hn, hmP, hmI, hmH, hmB, hmT, hmF, hmS⟩ := id hMA
  by_cases hx : x < 0
  · have hx1 : ¬ nI 0 ≤ x := fun q => by
      rw [Int32.le_iff_toInt_le, show (nI 0).toInt = 0 from rfl] at q
      rw [Int32.lt_iff_toInt_lt, show (0 : Int32).toInt = 0 from rfl] at hx
      omega
    refine pr_of (v := -1000000002) (σ1 := σ) (σ2 := σ) (fun Q => Cq_of (Er_of ?_)) (fun Q => Cq_of (Er_of ?_)) hI
    · show Wq none 117 0 [some (.ref (0 : Nat)), some (.int x), none] [] σ _
      simp only [w117_0, w117_1, w117_4, w117_6, w117_7, w117_8, w117_11, w117_12, w117_13, w117_14, w117_17, w117_18, hx1, ↓reduceIte, Option.toList_some, Option.toList_none, List.cons_append, List.nil_append, and_self]
    · show Wq none 204 0 [some (.ref (118 : Nat)), some (.int x), none] [] σ _
      simp only [w204_0, w204_1, w204_4, w204_6, w204_7, w204_8, w204_11, w204_12, w204_13, w204_14, w204_15, w204_16, w204_19, w204_20, hx1, ↓reduceIte, Option.toList_some, Option.toList_none, List.cons_append, List.nil_append, and_self]
  · obtain ⟨v, hv, rfl⟩ := nn_ex hx
    have hx1 : nI 0 ≤ nI v := nI_pos' hv
    have hCA2 := CA_s (s' := v) hCA
    have hMA2 := MA_lo hMA (up_hi (a0 := 0) (b0 := 12) (v := .int (nI v)) (by omega))
    have hMA3 := MA_s (s' := v) hMA2
    have gS := hMA2.2.2.2.2.2.2.2.2.2
    refine pr_of (v := nI s) (σ1 := dm_up σ 0 12 (.int (nI v))) (σ2 := dm_up (dm_up σ 0 12 (.int (nI v))) 118 7 (.long (lN v))) (fun Q => Cq_of (Er_of ?_)) (fun Q => Cq_of (Er_of ?_)) (inv_mk (WA_s hWA hv) hCA2 (up_lo (by omega)) hMA3)
    · show Wq none 117 0 [some (.ref (0 : Nat)), some (.int (nI v)), none] [] σ _
      simp only [w117_0, w117_1, w117_4, w117_6, w117_7, w117_8, w117_11, w117_12, w117_13, w117_14, w117_17, w117_18, ks_0, hx1, hS, ↓reduceIte, Option.toList_some, Option.toList_none, List.cons_append, List.nil_append, and_self]
    · show Wq none 204 0 [some (.ref (118 : Nat)), some (.int (nI v)), none] [] _ _
      simp only [w204_0, w204_1, w204_4, w204_6, w204_7, w204_8, w204_11, w204_12, w204_13, w204_14, w204_15, w204_16, w204_19, w204_20, ks_118, hx1, gS, lN_i, nI_l hv, ↓reduceIte, Option.toList_some, Option.toList_none, List.cons_append, List.nil_append, and_self]
-- tear
theorem pr_tear (hI : Inv σ) : Pr Inv 115 202 [] σ := by
  obtain ⟨c, n, k, p, q, im, h, hs, ht, m, bg, bx, L, tx, f, s, hWA, hCA, hMA⟩ := id hI; obtain ⟨hw, hwn, ⟨hk16, hkp⟩, ⟨hq4, hqi⟩, ⟨hh9, hhs, hht⟩, ⟨hm15, hmb⟩, ⟨hL240, htx⟩, hs31⟩ := id hWA; obtain ⟨⟨P, D, hPD, hB, hC, hD⟩, hN, hPa, hIm, hHe, hBk, hTx, hF, hS, hSc⟩ := id hCA; obtain ⟨hM, hc, hn, hmP, hmI, hmH, hmB, hmT, hmF, hmS⟩ := id hMA
  obtain ⟨b0, b3, b4, b5, b6, b7, b8, b9, b10, b11, b12⟩ := id hB
  obtain ⟨bk0, bk1, bk2, bk3⟩ := id hBk
  have kc : ∀ a b, ¬ ((a = 105 ∧ b < 2) ∨ (a = 107 ∧ b = 0)) → dm_up (dm_up (dm_up σ 105 0 (.int (-1))) 105 1 (.int (nI 0))) 107 0 (.int (nI 0)) a b = σ a b := fun a b z => by
    rw [up_get, if_neg (by omega), up_get, if_neg (by omega), up_get, if_neg (by omega)]
  have hCA2 : CA c n k p q im 0 hs ht 0 bg bx L tx f s (dm_up (dm_up (dm_up σ 105 0 (.int (-1))) 105 1 (.int (nI 0))) 107 0 (.int (nI 0))) := by
    refine ⟨cPl_of (fun a b z => kc a b (by omega)) ⟨P, D, hPD, hB, hC, hD⟩, cNo_of (fun a b z => kc a b (by omega)) hN, cPa_of (fun a b z => kc a b (by omega)) hPa, cIm_of (fun a b z => kc a b (by omega)) hIm, ⟨(kc _ _ (by omega)).trans hHe.1, fun _ => ⟨rfl, rfl⟩, fun z => absurd z (by omega)⟩, ⟨rfl, (kc _ _ (by omega)).trans bk1, (kc _ _ (by omega)).trans bk2, fun i hi => absurd hi (by omega)⟩, cTx_of (fun a b z => kc a b (by omega)) hTx, (kc _ _ (by omega)).trans hF, (kc _ _ (by omega)).trans hS, cSc_of (fun a b z => kc a b (by omega)) hSc⟩
  have hMA2 := MA_lo hMA (fun a b z => kc a b (by omega))
  generalize hτ : dm_up (dm_up (dm_up σ 105 0 (.int (-1))) 105 1 (.int (nI 0))) 107 0 (.int (nI 0)) = τ at hCA2 hMA2 kc
  obtain ⟨gM, gc, gn, gP, gI, gH, gB, gT, gF, gS⟩ := id hMA2
  have km : ∀ a b, ¬ (a = 118 ∧ (b = 15 ∨ b = 13)) → dm_up (dm_up τ 118 15 (.int (nI 0))) 118 13 (.int (nI 0)) a b = τ a b := fun a b z => by
    rw [up_get, if_neg (by omega), up_get, if_neg (by omega)]
  have hMA3 : MA c n k p q im 0 hs ht 0 bg bx L tx f s (dm_up (dm_up τ 118 15 (.int (nI 0))) 118 13 (.int (nI 0))) := ⟨MR_k (fun a b z => km a b (by omega)) gM, MC_k (fun a b z => km a b (by omega)) gc, MN_k (fun a b z => km a b (by omega)) gn, mPa_k (fun a b z => km a b (by omega)) gP, mIm_k (fun a b z => km a b (by omega)) gI, ⟨rfl, fun i hi => absurd hi (by omega), fun i _ hi => absurd hi (by omega)⟩, ⟨rfl, fun i hi => absurd hi (by omega)⟩, mTx_k (fun a b z => km a b (by omega)) gT, (km _ _ (by omega)).trans gF, (km _ _ (by omega)).trans gS⟩
  refine pr_of (v := nI m) (σ1 := τ) (σ2 := dm_up (dm_up τ 118 15 (.int (nI 0))) 118 13 (.int (nI 0))) (fun Q => Cq_of (Er_of ?_)) (fun Q => Cq_of (Er_of ?_)) (inv_mk (s := s) ⟨hw, hwn, ⟨hk16, hkp⟩, ⟨hq4, hqi⟩, ⟨by omega, hhs, hht⟩, ⟨by omega, fun i hi => absurd hi (by omega)⟩, ⟨hL240, htx⟩, hs31⟩ hCA2 (fun a b z => km a b (by omega)) hMA3)
  · show Wq none 115 0 [some (.ref (0 : Nat)), none] [] σ _
    have x1 : dm_up (dm_up σ 105 0 (.int (-1))) 105 1 (.int (nI 0)) 0 9 = (.ref (107 : Nat)) := b10
    simp only [w115_0, w115_1, w115_4, w115_7, w115_8, w115_9, w115_12, w115_15, w115_16, w115_19, w115_22, w115_23, ks_0, ks_105, ks_107, b9, b10, bk0, c_heardClear, x1, c_bkClear, hτ, ↓reduceIte, Option.toList_some, Option.toList_none, List.cons_append, List.nil_append, and_self]
  · show Wq none 202 0 [some (.ref (118 : Nat)), none] [] _ _
    simp only [w202_0, w202_1, w202_4, w202_5, w202_6, w202_7, w202_10, w202_11, w202_12, w202_15, w202_16, ks_118, gB.1, ↓reduceIte, Option.toList_some, Option.toList_none, List.cons_append, List.nil_append, and_self]
-- write
theorem pr_write (x y : Int32) (hI : Inv σ) : Pr Inv 114 201 [.int x, .int y] σ := by
  obtain ⟨c, n, k, p, q, im, h, hs, ht, m, bg, bx, L, tx, f, s, hWA, hCA, hMA⟩ := id hI; obtain ⟨hw, hwn, ⟨hk16, hkp⟩, ⟨hq4, hqi⟩, ⟨hh9, hhs, hht⟩, ⟨hm15, hmb⟩, ⟨hL240, htx⟩, hs31⟩ := id hWA; obtain ⟨⟨P, D, hPD, hB, hC, hD⟩, hN, hPa, hIm, hHe, hBk, hTx, hF, hS, hSc⟩ := id hCA; obtain ⟨hM, hc, hn, hmP, hmI, hmH, hmB, hmT, hmF, hmS⟩ := id hMA
  obtain ⟨b0, b3, b4, b5, b6, b7, b8, b9, b10, b11, b12⟩ := id hB
  obtain ⟨w0, w2, w3, w4, w5, w6, w7, w8, w9⟩ := id hw
  obtain ⟨m0, m1, m2, m3, m5, m6, m8, m11, m12, m14, m22, m23, m24, m25, m29, m30, m31, m32⟩ := id hM
  obtain ⟨⟨kP, ⟨t1, l1⟩, ⟨t2, l2⟩, ⟨t3, l3⟩, ⟨t4, l4⟩, ⟨t5, l5⟩, ⟨t6, l6⟩, ⟨t7, l7⟩, ⟨t8, l8⟩, ⟨t9, l9⟩⟩, ⟨r1, r2, r3, r4, r5, r6, r7, r8, r9⟩, ⟨i0, i2, i3, i4⟩, f1, f2, f3, f4, f5, f6, f7⟩ := id hC
  obtain ⟨bk0, bk1, bk2, bk3⟩ := id hBk
  rcases ix_cs x (show c 2 < 2 ^ 31 by omega) with ⟨g, hg, rfl⟩ | ⟨hx, hx2⟩
  · rcases ix_cs y (show c 0 < 2 ^ 31 by omega) with ⟨e, he, rfl⟩ | ⟨hy, hy2⟩
    · by_cases hm : m = 15
      · subst hm
        refine pr_of (v := -1000000004) (σ1 := σ) (σ2 := σ) (fun Q => Cq_of (Er_of ?_)) (fun Q => Cq_of (Er_of ?_)) hI
        · show Wq none 114 0 [some (.ref (0 : Nat)), some (.int (nI g)), some (.int (nI e))] [] σ _
          simp only [w114_0, w114_1, w114_4, w114_5, w114_8, w114_11, w114_12, w114_15, w114_16, w114_19, w114_22, w114_24, w114_25, w114_26, w114_29, w114_32, w114_34, w114_37, w114_39, w114_40, w114_41, w114_44, w114_45, w114_46, w114_49, w114_50, w114_53, w114_56, ks_0, ks_107, kP, b4, b10, bk0, c_hasGuide hC hg hw, c_hasCrossing hC he hw, nI_ne1, (by decide : ¬ nI 15 < nI 15), ↓reduceIte, Option.toList_some, Option.toList_none, List.cons_append, List.nil_append, and_self]
        · show Wq none 201 0 [some (.ref (118 : Nat)), some (.int (nI g)), some (.int (nI e))] [] σ _
          simp only [w201_0, w201_1, w201_2, w201_5, w201_8, w201_9, w201_10, w201_13, w201_16, w201_18, w201_19, w201_20, w201_23, w201_25, w201_28, w201_30, w201_31, w201_32, w201_35, w201_36, w201_37, w201_40, w201_41, w201_42, w201_43, w201_44, w201_47, w201_48, w201_49, w201_52, w201_53, w201_54, w201_55, w201_56, w201_57, w201_58, w201_58i, w201_59, w201_62, w201_63, w201_64, w201_67, w201_68, w201_71, ks_118, c_isGuide (x := nI g) hM hc hw ⟨g, hg, rfl⟩, c_isCrossing (x := nI e) hM hc hw ⟨e, he, rfl⟩, nI_ne1, hmB.1, ↓reduceIte, Option.toList_some, Option.toList_none, List.cons_append, List.nil_append, and_self]
      · have hm14 : m < 15 := by omega
        have h1 : nI m < nI 15 := (nI_ltI (by omega) (by omega)).mpr hm14
        have h2 : ¬ nI m = nI 15 := fun z => hm (nI_inj (by omega) (by omega) z)
        have kc : ∀ a b, ¬ ((107 < a ∧ a < 110) ∨ (a = 107 ∧ b = 0)) → dm_up (dm_up (dm_up σ 108 m (.int (nI g))) 109 m (.int (nI e))) 107 0 (.int (nI (m + 1))) a b = σ a b := fun a b z => by
          rw [up_get, if_neg (by omega), up_get, if_neg (by omega), up_get, if_neg (by omega)]
        have hCA2 : CA c n k p q im h hs ht (m + 1) (up1 bg m g) (up1 bx m e) L tx f s (dm_up (dm_up (dm_up σ 108 m (.int (nI g))) 109 m (.int (nI e))) 107 0 (.int (nI (m + 1)))) := by
          refine ⟨cPl_of (fun a b z => kc a b (by omega)) ⟨P, D, hPD, hB, hC, hD⟩, cNo_of (fun a b z => kc a b (by omega)) hN, cPa_of (fun a b z => kc a b (by omega)) hPa, cIm_of (fun a b z => kc a b (by omega)) hIm, cHe_of (fun a b z => kc a b (by omega)) hHe, ⟨rfl, (kc _ _ (by omega)).trans bk1, (kc _ _ (by omega)).trans bk2, fun i hi => ?_⟩, cTx_of (fun a b z => kc a b (by omega)) hTx, (kc _ _ (by omega)).trans hF, (kc _ _ (by omega)).trans hS, cSc_of (fun a b z => kc a b (by omega)) hSc⟩
          unfold up1
          by_cases z : i = m
          · constructor
            · rw [gi_up, if_neg (by omega), gi_up, if_neg (by omega), gi_up, if_pos ⟨rfl, z⟩, if_pos z]
            · rw [gi_up, if_neg (by omega), gi_up, if_pos ⟨rfl, z⟩, if_pos z]
          · constructor
            · rw [gi_up, if_neg (by omega), gi_up, if_neg (by omega), gi_up, if_neg (by omega), if_neg z]
              exact (bk3 i (by omega)).1
            · rw [gi_up, if_neg (by omega), gi_up, if_neg (by omega), gi_up, if_neg (by omega), if_neg z]
              exact (bk3 i (by omega)).2
        have hMA2 := MA_lo hMA (fun a b z => kc a b (by omega))
        generalize hτ : dm_up (dm_up (dm_up σ 108 m (.int (nI g))) 109 m (.int (nI e))) 107 0 (.int (nI (m + 1))) = τ at hCA2 hMA2 kc
        obtain ⟨gM, gc, gn, gP, gI, gH, gB, gT, gF, gS⟩ := id hMA2
        have km : ∀ a b, ¬ (a = 128 ∨ (a = 118 ∧ b = 15)) → dm_up (dm_up (dm_up τ 128 (2 * m) (.int (nI g))) 128 (2 * m + 1) (.int (nI e))) 118 15 (.int (nI (m + 1))) a b = τ a b := fun a b z => by
          rw [up_get, if_neg (by omega), up_get, if_neg (by omega), up_get, if_neg (by omega)]
        have hMA3 : MA c n k p q im h hs ht (m + 1) (up1 bg m g) (up1 bx m e) L tx f s (dm_up (dm_up (dm_up τ 128 (2 * m) (.int (nI g))) 128 (2 * m + 1) (.int (nI e))) 118 15 (.int (nI (m + 1)))) := by
          refine ⟨MR_k (fun a b z => km a b (by omega)) gM, MC_k (fun a b z => km a b (by omega)) gc, MN_k (fun a b z => km a b (by omega)) gn, mPa_k (fun a b z => km a b (by omega)) gP, mIm_k (fun a b z => km a b (by omega)) gI, MH_k (fun a b z => km a b (by omega)) gH, ⟨rfl, fun i hi => ?_⟩, mTx_k (fun a b z => km a b (by omega)) gT, (km _ _ (by omega)).trans gF, (km _ _ (by omega)).trans gS⟩
          unfold up1
          by_cases z : i = m
          · constructor
            · rw [gi_up, if_neg (by omega), gi_up, if_neg (by omega), gi_up, if_pos (by omega), if_pos z]
            · rw [gi_up, if_neg (by omega), gi_up, if_pos (by omega), if_pos z]
          · constructor
            · rw [gi_up, if_neg (by omega), gi_up, if_neg (by omega), gi_up, if_neg (by omega), if_neg z]
              exact (gB.2 i (by omega)).1
            · rw [gi_up, if_neg (by omega), gi_up, if_neg (by omega), gi_up, if_neg (by omega), if_neg z]
              exact (gB.2 i (by omega)).2
        have x1 : τ 0 9 = (.ref (107 : Nat)) := (kc _ _ (by omega)).trans b10
        have x2 : τ 107 0 = .int (nI (m + 1)) := hCA2.2.2.2.2.2.1.1
        have y1 : dm_up τ 128 (2 * m) (.int (nI g)) 118 14 = (.ref (128 : Nat)) := gM.2.2.2.2.2.2.2.2.2.1
        have y2 : dm_up τ 128 (2 * m) (.int (nI g)) 118 15 = .int (nI m) := gB.1
        have y3 : dm_up (dm_up τ 128 (2 * m) (.int (nI g))) 128 (2 * m + 1) (.int (nI e)) 118 15 = .int (nI m) := gB.1
        have y4 : dm_up (dm_up (dm_up τ 128 (2 * m) (.int (nI g))) 128 (2 * m + 1) (.int (nI e))) 118 15 (.int (nI (m + 1))) 118 15 = .int (nI (m + 1)) := rfl
        refine pr_of (v := nI (m + 1)) (σ1 := τ) (σ2 := dm_up (dm_up (dm_up τ 128 (2 * m) (.int (nI g))) 128 (2 * m + 1) (.int (nI e))) 118 15 (.int (nI (m + 1)))) (fun Q => Cq_of (Er_of ?_)) (fun Q => Cq_of (Er_of ?_)) (inv_mk (s := s) ⟨hw, hwn, ⟨hk16, hkp⟩, ⟨hq4, hqi⟩, ⟨hh9, hhs, hht⟩, ⟨by omega, fun i hi => ?_⟩, ⟨hL240, htx⟩, hs31⟩ hCA2 (fun a b z => km a b (by omega)) hMA3)
        · show Wq none 114 0 [some (.ref (0 : Nat)), some (.int (nI g)), some (.int (nI e))] [] σ _
          simp only [w114_0, w114_1, w114_4, w114_5, w114_8, w114_11, w114_12, w114_15, w114_16, w114_19, w114_22, w114_24, w114_25, w114_26, w114_29, w114_32, w114_34, w114_37, w114_39, w114_40, w114_41, w114_44, w114_45, w114_46, w114_49, w114_50, w114_53, w114_56, ks_0, ks_107, kP, b4, b10, bk0, c_hasGuide hC hg hw, c_hasCrossing hC he hw, nI_ne1, h1, c_bkAdd hBk (show m < kl 108 by rw [kl_108]; omega) (show m < kl 109 by rw [kl_109]; omega) (by rw [kl_108]; omega) (by rw [kl_109]; omega), hτ, x1, x2, ↓reduceIte, Option.toList_some, Option.toList_none, List.cons_append, List.nil_append, and_self]
        · show Wq none 201 0 [some (.ref (118 : Nat)), some (.int (nI g)), some (.int (nI e))] [] τ _
          simp only [w201_0, w201_1, w201_2, w201_5, w201_8, w201_9, w201_10, w201_13, w201_16, w201_18, w201_19, w201_20, w201_23, w201_25, w201_28, w201_30, w201_31, w201_32, w201_35, w201_36, w201_37, w201_40, w201_41, w201_42, w201_43, w201_44, w201_47, w201_48, w201_49, w201_52, w201_53, w201_54, w201_55, w201_56, w201_57, w201_58, w201_58i, w201_59, w201_62, w201_63, w201_64, w201_67, w201_68, w201_71, ks_118, c_isGuide (x := nI g) gM gc hw ⟨g, hg, rfl⟩, c_isCrossing (x := nI e) gM gc hw ⟨e, he, rfl⟩, nI_ne1, gB.1, h2, gM.2.2.2.2.2.2.2.2.2.1, kt_128, pk_mul, nI_add, in_nI (show 2 * m < kl 128 by rw [kl_128]; omega) (by rw [kl_128]; omega), nI_clamp (show 2 * m < 2 ^ 31 by omega), in_nI (show 2 * m + 1 < kl 128 by rw [kl_128]; omega) (by rw [kl_128]; omega), nI_clamp (show 2 * m + 1 < 2 ^ 31 by omega), y1, y2, y3, y4, ↓reduceIte, Option.toList_some, Option.toList_none, List.cons_append, List.nil_append, and_self]
        · unfold up1
          split
          · exact ⟨hg, he⟩
          · exact hmb i (by omega)
    · refine pr_of (v := -1000000001) (σ1 := σ) (σ2 := σ) (fun Q => Cq_of (Er_of ?_)) (fun Q => Cq_of (Er_of ?_)) hI
      · show Wq none 114 0 [some (.ref (0 : Nat)), some (.int (nI g)), some (.int y)] [] σ _
        simp only [w114_0, w114_1, w114_4, w114_5, w114_8, w114_11, w114_12, w114_15, w114_16, w114_19, w114_22, w114_24, w114_25, w114_26, w114_29, w114_32, w114_34, w114_37, w114_39, w114_40, w114_41, w114_44, w114_45, w114_46, w114_49, w114_50, w114_53, w114_56, ks_0, kP, b4, c_hasGuide hC hg hw, c_hasCrossing_f hC hy, nI_ne1, ↓reduceIte, Option.toList_some, Option.toList_none, List.cons_append, List.nil_append, and_self]
      · show Wq none 201 0 [some (.ref (118 : Nat)), some (.int (nI g)), some (.int y)] [] σ _
        simp only [w201_0, w201_1, w201_2, w201_5, w201_8, w201_9, w201_10, w201_13, w201_16, w201_18, w201_19, w201_20, w201_23, w201_25, w201_28, w201_30, w201_31, w201_32, w201_35, w201_36, w201_37, w201_40, w201_41, w201_42, w201_43, w201_44, w201_47, w201_48, w201_49, w201_52, w201_53, w201_54, w201_55, w201_56, w201_57, w201_58, w201_58i, w201_59, w201_62, w201_63, w201_64, w201_67, w201_68, w201_71, ks_118, c_isGuide (x := nI g) hM hc hw ⟨g, hg, rfl⟩, c_isCrossing_f hM hc hw hy2, nI_ne1, ↓reduceIte, Option.toList_some, Option.toList_none, List.cons_append, List.nil_append, and_self]
  · refine pr_of (v := -1000000001) (σ1 := σ) (σ2 := σ) (fun Q => Cq_of (Er_of ?_)) (fun Q => Cq_of (Er_of ?_)) hI
    · show Wq none 114 0 [some (.ref (0 : Nat)), some (.int x), some (.int y)] [] σ _
      simp only [w114_0, w114_1, w114_4, w114_5, w114_8, w114_11, w114_12, w114_15, w114_16, w114_19, w114_22, w114_24, w114_25, w114_26, w114_29, w114_32, w114_34, w114_37, w114_39, w114_40, w114_41, w114_44, w114_45, w114_46, w114_49, w114_50, w114_53, w114_56, ks_0, kP, b4, c_hasGuide_f hC hx, ↓reduceIte, Option.toList_some, Option.toList_none, List.cons_append, List.nil_append, and_self]
    · show Wq none 201 0 [some (.ref (118 : Nat)), some (.int x), some (.int y)] [] σ _
      simp only [w201_0, w201_1, w201_2, w201_5, w201_8, w201_9, w201_10, w201_13, w201_16, w201_18, w201_19, w201_20, w201_23, w201_25, w201_28, w201_30, w201_31, w201_32, w201_35, w201_36, w201_37, w201_40, w201_41, w201_42, w201_43, w201_44, w201_47, w201_48, w201_49, w201_52, w201_53, w201_54, w201_55, w201_56, w201_57, w201_58, w201_58i, w201_59, w201_62, w201_63, w201_64, w201_67, w201_68, w201_71, ks_118, c_isGuide_f hM hc hw hx2, ↓reduceIte, Option.toList_some, Option.toList_none, List.cons_append, List.nil_append, and_self]
-- feed
theorem pr_feed (x : Int32) (hI : Inv σ) : Pr Inv 77 132 [.int x] σ := by
  obtain ⟨c, n, k, p, q, im, h, hs, ht, m, bg, bx, L, tx, f, s, hWA, hCA, hMA⟩ := id hI; obtain ⟨hw, hwn, ⟨hk16, hkp⟩, ⟨hq4, hqi⟩, ⟨hh9, hhs, hht⟩, ⟨hm15, hmb⟩, ⟨hL240, htx⟩, hs31⟩ := id hWA; obtain ⟨⟨P, D, hPD, hB, hC, hD⟩, hN, hPa, hIm, hHe, hBk, hTx, hF, hS, hSc⟩ := id hCA; obtain ⟨hM, hc, hn, hmP, hmI, hmH, hmB, hmT, hmF, hmS⟩ := id hMA
  obtain ⟨b0, b3, b4, b5, b6, b7, b8, b9, b10, b11, b12⟩ := id hB
  obtain ⟨m0, m1, m2, m3, m5, m6, m8, m11, m12, m14, m22, m23, m24, m25, m29, m30, m31, m32⟩ := id hM
  rcases ix_cs x (show 256 < 2 ^ 31 by omega) with ⟨e, he, rfl⟩ | ⟨hx, hx2⟩
  · have a1 : ¬ nI e < nI 0 := nI_pos (by omega)
    have a2 : nI e ≤ nI 255 := nI_le (by omega) (by omega)
    have hin := in_yes (j := e) (N := 255) (by omega) (by omega)
    by_cases hm : L = 240
    · subst hm
      refine pr_of (v := -1000000004) (σ1 := σ) (σ2 := σ) (fun Q => Cq_of (Er_of ?_)) (fun Q => Cq_of (Er_of ?_)) hI
      · show Wq none 77 0 [some (.ref (0 : Nat)), some (.int (nI e))] [] σ _
        simp only [w77_0, w77_1, w77_4, w77_5, w77_8, w77_11, w77_13, w77_14, w77_15, w77_18, w77_21, w77_24, w77_26, w77_27, w77_28, w77_31, w77_32, w77_35, w77_36, w77_39, w77_40, w77_40i, w77_41, w77_44, w77_45, w77_46, w77_49, w77_50, w77_53, ks_0, a1, a2, hTx.1, (by decide : ¬ nI 240 < nI 240), ↓reduceIte, Option.toList_some, Option.toList_none, List.cons_append, List.nil_append, and_self]
      · show Wq none 132 0 [some (.ref (118 : Nat)), some (.int (nI e))] [] σ _
        simp only [w132_0, w132_1, w132_2, w132_3, w132_6, w132_9, w132_12, w132_14, w132_15, w132_16, w132_19, w132_22, w132_25, w132_27, w132_28, w132_29, w132_32, w132_33, w132_36, w132_37, w132_38, w132_39, w132_39i, w132_40, w132_43, w132_44, w132_45, w132_48, w132_49, w132_52, ks_118, c_in, hin, nI_ne1, hmT.1, ↓reduceIte, Option.toList_some, Option.toList_none, List.cons_append, List.nil_append, and_self]
    · have h1 : nI L < nI 240 := (nI_ltI (by omega) (by omega)).mpr (by omega)
      have h2 : ¬ nI L = nI 240 := fun z => hm (nI_inj (by omega) (by omega) z)
      have kc : ∀ a b, ¬ (a = 1 ∨ (a = 0 ∧ b = 1)) → dm_up (dm_up σ 1 L (.int (nI e))) 0 1 (.int (nI (L + 1))) a b = σ a b := fun a b z => by
        rw [up_get, if_neg (by omega), up_get, if_neg (by omega)]
      have hCA2 : CA c n k p q im h hs ht m bg bx (L + 1) (up1 tx L e) f s (dm_up (dm_up σ 1 L (.int (nI e))) 0 1 (.int (nI (L + 1)))) := by
        refine ⟨cPl_of (fun a b z => kc a b (by omega)) ⟨P, D, hPD, hB, hC, hD⟩, cNo_of (fun a b z => kc a b (by omega)) hN, cPa_of (fun a b z => kc a b (by omega)) hPa, cIm_of (fun a b z => kc a b (by omega)) hIm, cHe_of (fun a b z => kc a b (by omega)) hHe, CBk_of (fun a b z => kc a b (by omega)) hBk, ⟨rfl, fun i hi => ?_⟩, (kc _ _ (by omega)).trans hF, (kc _ _ (by omega)).trans hS, cSc_of (fun a b z => kc a b (by omega)) hSc⟩
        rw [gi_up, if_neg (by omega), gi_up]
        unfold up1
        by_cases z : i = L
        · rw [if_pos ⟨rfl, z⟩, if_pos z]
        · rw [if_neg (fun w => z w.2), if_neg z]
          exact hTx.2 i (by omega)
      have hMA2 := MA_lo hMA (fun a b z => kc a b (by omega))
      generalize hτ : dm_up (dm_up σ 1 L (.int (nI e))) 0 1 (.int (nI (L + 1))) = τ at hCA2 hMA2 kc
      obtain ⟨gM, gc, gn, gP, gI, gH, gB, gT, gF, gS⟩ := id hMA2
      have km : ∀ a b, ¬ (a = 125 ∨ (a = 118 ∧ b = 9)) → dm_up (dm_up τ 125 L (.int (nI e))) 118 9 (.int (nI (L + 1))) a b = τ a b := fun a b z => by
        rw [up_get, if_neg (by omega), up_get, if_neg (by omega)]
      have hMA3 : MA c n k p q im h hs ht m bg bx (L + 1) (up1 tx L e) f s (dm_up (dm_up τ 125 L (.int (nI e))) 118 9 (.int (nI (L + 1)))) := by
        refine ⟨MR_k (fun a b z => km a b (by omega)) gM, MC_k (fun a b z => km a b (by omega)) gc, MN_k (fun a b z => km a b (by omega)) gn, mPa_k (fun a b z => km a b (by omega)) gP, mIm_k (fun a b z => km a b (by omega)) gI, MH_k (fun a b z => km a b (by omega)) gH, MB_k (fun a b z => km a b (by omega)) gB, ⟨rfl, fun i hi => ?_⟩, (km _ _ (by omega)).trans gF, (km _ _ (by omega)).trans gS⟩
        rw [gi_up, if_neg (by omega), gi_up]
        unfold up1
        by_cases z : i = L
        · rw [if_pos ⟨rfl, z⟩, if_pos z]
        · rw [if_neg (fun w => z w.2), if_neg z]
          exact gT.2 i (by omega)
      have x0 : dm_up σ 1 L (.int (nI e)) 0 1 = .int (nI L) := hTx.1
      have x1 : τ 0 1 = .int (nI (L + 1)) := hCA2.2.2.2.2.2.2.1.1
      have y2 : dm_up τ 125 L (.int (nI e)) 118 9 = .int (nI L) := gT.1
      have y3 : dm_up (dm_up τ 125 L (.int (nI e))) 118 9 (.int (nI (L + 1))) 118 9 = .int (nI (L + 1)) := rfl
      refine pr_of (v := nI (L + 1)) (σ1 := τ) (σ2 := dm_up (dm_up τ 125 L (.int (nI e))) 118 9 (.int (nI (L + 1)))) (fun Q => Cq_of (Er_of ?_)) (fun Q => Cq_of (Er_of ?_)) (inv_mk (s := s) ⟨hw, hwn, ⟨hk16, hkp⟩, ⟨hq4, hqi⟩, ⟨hh9, hhs, hht⟩, ⟨hm15, hmb⟩, ⟨by omega, fun i hi => ?_⟩, hs31⟩ hCA2 (fun a b z => km a b (by omega)) hMA3)
      · show Wq none 77 0 [some (.ref (0 : Nat)), some (.int (nI e))] [] σ _
        simp only [w77_0, w77_1, w77_4, w77_5, w77_8, w77_11, w77_13, w77_14, w77_15, w77_18, w77_21, w77_24, w77_26, w77_27, w77_28, w77_31, w77_32, w77_35, w77_36, w77_39, w77_40, w77_40i, w77_41, w77_44, w77_45, w77_46, w77_49, w77_50, w77_53, ks_0, a1, a2, hTx.1, h1, b0, c_put kt_1 (show L < kl 1 by rw [kl_1]; omega) (by rw [kl_1]; omega), x0, nI_add, hτ, x1, ↓reduceIte, Option.toList_some, Option.toList_none, List.cons_append, List.nil_append, and_self]
      · show Wq none 132 0 [some (.ref (118 : Nat)), some (.int (nI e))] [] τ _
        simp only [w132_0, w132_1, w132_2, w132_3, w132_6, w132_9, w132_12, w132_14, w132_15, w132_16, w132_19, w132_22, w132_25, w132_27, w132_28, w132_29, w132_32, w132_33, w132_36, w132_37, w132_38, w132_39, w132_39i, w132_40, w132_43, w132_44, w132_45, w132_48, w132_49, w132_52, ks_118, c_in, hin, nI_ne1, gT.1, h2, gM.2.2.2.2.2.2.1, kt_125, in_nI (show L < kl 125 by rw [kl_125]; omega) (by rw [kl_125]; omega), nI_clamp (show L < 2 ^ 31 by omega), y2, nI_add, y3, ↓reduceIte, Option.toList_some, Option.toList_none, List.cons_append, List.nil_append, and_self]
      · unfold up1
        split
        · exact he
        · exact htx i (by omega)
  · have hin := in_no (x := x) (N := 255) (by omega) hx2
    refine pr_of (v := -1000000002) (σ1 := σ) (σ2 := σ) (fun Q => Cq_of (Er_of ?_)) (fun Q => Cq_of (Er_of ?_)) hI
    · show Wq none 77 0 [some (.ref (0 : Nat)), some (.int x)] [] σ _
      by_cases h0 : x < nI 0
      · simp only [w77_0, w77_1, w77_4, w77_5, w77_8, w77_11, w77_13, w77_14, w77_15, w77_18, w77_21, w77_24, w77_26, w77_27, w77_28, w77_31, w77_32, w77_35, w77_36, w77_39, w77_40, w77_40i, w77_41, w77_44, w77_45, w77_46, w77_49, w77_50, w77_53, ks_0, h0, ↓reduceIte, Option.toList_some, Option.toList_none, List.cons_append, List.nil_append, and_self]
      · simp only [w77_0, w77_1, w77_4, w77_5, w77_8, w77_11, w77_13, w77_14, w77_15, w77_18, w77_21, w77_24, w77_26, w77_27, w77_28, w77_31, w77_32, w77_35, w77_36, w77_39, w77_40, w77_40i, w77_41, w77_44, w77_45, w77_46, w77_49, w77_50, w77_53, ks_0, h0, nle_le (N := 255) (by omega) h0 hx, ↓reduceIte, Option.toList_some, Option.toList_none, List.cons_append, List.nil_append, and_self]
    · show Wq none 132 0 [some (.ref (118 : Nat)), some (.int x)] [] σ _
      simp only [w132_0, w132_1, w132_2, w132_3, w132_6, w132_9, w132_12, w132_14, w132_15, w132_16, w132_19, w132_22, w132_25, w132_27, w132_28, w132_29, w132_32, w132_33, w132_36, w132_37, w132_38, w132_39, w132_39i, w132_40, w132_43, w132_44, w132_45, w132_48, w132_49, w132_52, ks_118, c_in, hin, ↓reduceIte, Option.toList_some, Option.toList_none, List.cons_append, List.nil_append, and_self]
end KE
