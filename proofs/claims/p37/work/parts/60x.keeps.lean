section KEX
variable {σ : dm_G} {c n : Nat → Nat} {k : Nat} {p : Nat → Nat → Nat} {q : Nat} {im : Nat → Nat → Nat} {h : Nat} {hs ht : Nat → Nat} {m : Nat} {bg bx : Nat → Nat} {L : Nat} {tx : Nat → Nat} {f : Int32} {s : Nat}
theorem q_undo0 (hK : KA c n 0 p q im h hs ht m bg bx L tx f s σ) : Er 93 [(.ref (0 : Nat))] σ (some (.int (-1000000003))) σ := by
  obtain ⟨hWA, hCA⟩ := id hK; obtain ⟨hw, hwn, ⟨hk16, hkp⟩, ⟨hq4, hqi⟩, ⟨hh9, hhs, hht⟩, ⟨hm15, hmb⟩, ⟨hL240, htx⟩, hs31⟩ := id hWA; obtain ⟨⟨P, D, hPD, hB, hC, hD⟩, hN, hPa, hIm, hHe, hBk, hTx, hF, hS, hSc⟩ := id hCA
  obtain ⟨u, hu, hP, hSR, hp⟩ := id hPa
  exact Er_q (fun Q => c_undo0 hB hP)
theorem q_undo (hK : KA c n (k + 1) p q im h hs ht m bg bx L tx f s σ) : ∃ τ, Er 93 [(.ref (0 : Nat))] σ (some (.int (nI k))) τ ∧ KA c (p 0) k (fun i => p (i + 1)) q im h hs ht m bg bx L tx f s τ ∧ FZ σ τ := by
  obtain ⟨hWA, hCA⟩ := id hK; obtain ⟨hw, hwn, ⟨hk16, hkp⟩, ⟨hq4, hqi⟩, ⟨hh9, hhs, hht⟩, ⟨hm15, hmb⟩, ⟨hL240, htx⟩, hs31⟩ := id hWA; obtain ⟨⟨P, D, hPD, hB, hC, hD⟩, hN, hPa, hIm, hHe, hBk, hTx, hF, hS, hSc⟩ := id hCA
  obtain ⟨w0, w2, w3, w4, w5, w6, w7, w8, w9⟩ := id hw
  obtain ⟨u, hu, hP, hSR, hp⟩ := id hPa
  have hw16 : (u + 15) % 16 < 16 := by omega
  have h0 := hp 0 (by omega)
  rw [Nat.sub_zero] at h0
  have eC := fun Q => c_undo (Q := Q) hB hP hu (show k < 16 by omega) SK_24 hN.2.1 (fun i hi => ⟨SK_p i hi, hSR i hi⟩) (CN_iN h0)
  have ku : ∀ a b, ¬ ((24 ≤ a ∧ a < 28) ∨ a = 28) → ubF σ u k a b = σ a b := fun a b z => by
    unfold ubF
    rw [be_out (by omega), up_get, if_neg (by omega), up_get, if_neg (by omega)]
  have kv : ∀ a b, ¬ (24 ≤ a ∧ a < 28) → ubF σ u k a b = dm_up (dm_up σ 28 1 (.int (nI ((u + 15) % 16)))) 28 2 (.int (nI k)) a b := fun a b z => by
    unfold ubF
    rw [be_out (by omega)]
  have hN' : CN (ubF σ u k) 24 (c 2) (p 0) := be_CN SK_24 hN.2.1 w2 (CN_of (fun i b hi => by rw [up_get, if_neg (by omega), up_get, if_neg (by omega)]) h0) (Or.inl (by omega))
  have hCA2 : CA c (p 0) k (fun i => p (i + 1)) q im h hs ht m bg bx L tx f s (ubF σ u k) := by
    refine ⟨cPl_of (fun a b z => ku a b (by omega)) ⟨P, D, hPD, hB, hC, hD⟩, hN', ⟨(u + 15) % 16, hw16, ⟨?_, ?_, ?_, ?_⟩, ?_, ?_⟩, cIm_of (fun a b z => ku a b (by omega)) hIm, cHe_of (fun a b z => ku a b (by omega)) hHe, CBk_of (fun a b z => ku a b (by omega)) hBk, cTx_of (fun a b z => ku a b (by omega)) hTx, (ku _ _ (by omega)).trans hF, (ku _ _ (by omega)).trans hS, cSc_of (fun a b z => ku a b (by omega)) hSc⟩
    · rw [kv _ _ (by omega)]; exact hP.1
    · rw [kv _ _ (by omega)]; rfl
    · rw [kv _ _ (by omega)]; rfl
    · intro i hi
      rw [kv _ _ (by omega), up_get, if_neg (by omega), up_get, if_neg (by omega)]
      exact hP.2.2.2 i hi
    · intro i hi
      refine SR_of (fun b => ?_) (hSR i hi)
      rw [kv _ _ (by omega), up_get, if_neg (by omega), up_get, if_neg (by omega)]
    · intro i hi
      rw [show ((u + 15) % 16 + 15 - i) % 16 = (u + 15 - (i + 1)) % 16 by omega]
      refine CN_of (fun j b hj => ?_) (hp (i + 1) (by omega))
      rw [kv _ _ (by omega), up_get, if_neg (by omega), up_get, if_neg (by omega)]
  have lo : ∀ a b, 118 ≤ a → ubF σ u k a b = σ a b := fun a b z => ku a b (by omega)
  refine ⟨ubF σ u k, Er_q eC, ⟨⟨hw, hkp 0 (by omega), ⟨by omega, fun i hi => hkp (i + 1) (by omega)⟩, ⟨hq4, hqi⟩, ⟨hh9, hhs, hht⟩, ⟨hm15, hmb⟩, ⟨hL240, htx⟩, hs31⟩, hCA2⟩, lo⟩
theorem q_seed {v : Nat} (hK : KA c n k p q im h hs ht m bg bx L tx f s σ) (hv : v < 2 ^ 31) : ∃ τ, Er 117 [(.ref (0 : Nat)), .int (nI v)] σ (some (.int (nI s))) τ ∧ KA c n k p q im h hs ht m bg bx L tx f v τ ∧ FZ σ τ := by
  obtain ⟨hWA, hCA⟩ := id hK; obtain ⟨hw, hwn, ⟨hk16, hkp⟩, ⟨hq4, hqi⟩, ⟨hh9, hhs, hht⟩, ⟨hm15, hmb⟩, ⟨hL240, htx⟩, hs31⟩ := id hWA; obtain ⟨⟨P, D, hPD, hB, hC, hD⟩, hN, hPa, hIm, hHe, hBk, hTx, hF, hS, hSc⟩ := id hCA
  have hx1 : nI 0 ≤ nI v := nI_pos' hv
  refine ⟨dm_up σ 0 12 (.int (nI v)), Er_of ?_, ⟨WA_s hWA hv, CA_s (s' := v) hCA⟩, up_hi (by omega)⟩
  show Wq none 117 0 [some (.ref (0 : Nat)), some (.int (nI v)), none] [] σ _
  simp only [w117_0, w117_1, w117_4, w117_6, w117_7, w117_8, w117_11, w117_12, w117_13, w117_14, w117_17, w117_18, ks_0, hx1, hS, ↓reduceIte, Option.toList_some, Option.toList_none, List.cons_append, List.nil_append, and_self]
theorem q_tear (hK : KA c n k p q im h hs ht m bg bx L tx f s σ) : ∃ τ, Er 115 [(.ref (0 : Nat))] σ (some (.int (nI m))) τ ∧ KA c n k p q im 0 hs ht 0 bg bx L tx f s τ ∧ FZ σ τ := by
  obtain ⟨hWA, hCA⟩ := id hK; obtain ⟨hw, hwn, ⟨hk16, hkp⟩, ⟨hq4, hqi⟩, ⟨hh9, hhs, hht⟩, ⟨hm15, hmb⟩, ⟨hL240, htx⟩, hs31⟩ := id hWA; obtain ⟨⟨P, D, hPD, hB, hC, hD⟩, hN, hPa, hIm, hHe, hBk, hTx, hF, hS, hSc⟩ := id hCA
  obtain ⟨b0, b3, b4, b5, b6, b7, b8, b9, b10, b11, b12⟩ := id hB
  obtain ⟨bk0, bk1, bk2, bk3⟩ := id hBk
  have kc : ∀ a b, ¬ ((a = 105 ∧ b < 2) ∨ (a = 107 ∧ b = 0)) → dm_up (dm_up (dm_up σ 105 0 (.int (-1))) 105 1 (.int (nI 0))) 107 0 (.int (nI 0)) a b = σ a b := fun a b z => by
    rw [up_get, if_neg (by omega), up_get, if_neg (by omega), up_get, if_neg (by omega)]
  have hCA2 : CA c n k p q im 0 hs ht 0 bg bx L tx f s (dm_up (dm_up (dm_up σ 105 0 (.int (-1))) 105 1 (.int (nI 0))) 107 0 (.int (nI 0))) := by
    refine ⟨cPl_of (fun a b z => kc a b (by omega)) ⟨P, D, hPD, hB, hC, hD⟩, cNo_of (fun a b z => kc a b (by omega)) hN, cPa_of (fun a b z => kc a b (by omega)) hPa, cIm_of (fun a b z => kc a b (by omega)) hIm, ⟨(kc _ _ (by omega)).trans hHe.1, fun _ => ⟨rfl, rfl⟩, fun z => absurd z (by omega)⟩, ⟨rfl, (kc _ _ (by omega)).trans bk1, (kc _ _ (by omega)).trans bk2, fun i hi => absurd hi (by omega)⟩, cTx_of (fun a b z => kc a b (by omega)) hTx, (kc _ _ (by omega)).trans hF, (kc _ _ (by omega)).trans hS, cSc_of (fun a b z => kc a b (by omega)) hSc⟩
  refine ⟨_, Er_of ?_, ⟨⟨hw, hwn, ⟨hk16, hkp⟩, ⟨hq4, hqi⟩, ⟨by omega, hhs, hht⟩, ⟨by omega, fun i hi => absurd hi (by omega)⟩, ⟨hL240, htx⟩, hs31⟩, hCA2⟩, fun a b z => kc a b (by omega)⟩
  show Wq none 115 0 [some (.ref (0 : Nat)), none] [] σ _
  have x1 : dm_up (dm_up σ 105 0 (.int (-1))) 105 1 (.int (nI 0)) 0 9 = (.ref (107 : Nat)) := b10
  simp only [w115_0, w115_1, w115_4, w115_7, w115_8, w115_9, w115_12, w115_15, w115_16, w115_19, w115_22, w115_23, ks_0, ks_105, ks_107, b9, b10, bk0, c_heardClear, x1, c_bkClear, ↓reduceIte, Option.toList_some, Option.toList_none, List.cons_append, List.nil_append, and_self]
theorem q_write {g e : Nat} (hK : KA c n k p q im h hs ht m bg bx L tx f s σ) (hg : g < c 2) (he : e < c 0) (hm14 : m < 15) : ∃ τ, Er 114 [(.ref (0 : Nat)), .int (nI g), .int (nI e)] σ (some (.int (nI (m + 1)))) τ ∧ KA c n k p q im h hs ht (m + 1) (up1 bg m g) (up1 bx m e) L tx f s τ ∧ FZ σ τ := by
  obtain ⟨hWA, hCA⟩ := id hK; obtain ⟨hw, hwn, ⟨hk16, hkp⟩, ⟨hq4, hqi⟩, ⟨hh9, hhs, hht⟩, ⟨hm15, hmb⟩, ⟨hL240, htx⟩, hs31⟩ := id hWA; obtain ⟨⟨P, D, hPD, hB, hC, hD⟩, hN, hPa, hIm, hHe, hBk, hTx, hF, hS, hSc⟩ := id hCA
  obtain ⟨b0, b3, b4, b5, b6, b7, b8, b9, b10, b11, b12⟩ := id hB
  obtain ⟨w0, w2, w3, w4, w5, w6, w7, w8, w9⟩ := id hw
  obtain ⟨⟨kP, ⟨t1, l1⟩, ⟨t2, l2⟩, ⟨t3, l3⟩, ⟨t4, l4⟩, ⟨t5, l5⟩, ⟨t6, l6⟩, ⟨t7, l7⟩, ⟨t8, l8⟩, ⟨t9, l9⟩⟩, ⟨r1, r2, r3, r4, r5, r6, r7, r8, r9⟩, ⟨i0, i2, i3, i4⟩, f1, f2, f3, f4, f5, f6, f7⟩ := id hC
  obtain ⟨bk0, bk1, bk2, bk3⟩ := id hBk
  have h1 : nI m < nI 15 := (nI_ltI (by omega) (by omega)).mpr hm14
  have kc : ∀ a b, ¬ ((107 < a ∧ a < 110) ∨ (a = 107 ∧ b = 0)) → dm_up (dm_up (dm_up σ 108 m (.int (nI g))) 109 m (.int (nI e))) 107 0 (.int (nI (m + 1))) a b = σ a b := fun a b z => by
    rw [up_get, if_neg (by omega), up_get, if_neg (by omega), up_get, if_neg (by omega)]
  have hCA2 : CA c n k p q im h hs ht (m + 1) (up1 bg m g) (up1 bx m e) L tx f s (dm_up (dm_up (dm_up σ 108 m (.int (nI g))) 109 m (.int (nI e))) 107 0 (.int (nI (m + 1)))) := by
    refine ⟨cPl_of (fun a b z => kc a b (by omega)) ⟨P, D, hPD, hB, hC, hD⟩, cNo_of (fun a b z => kc a b (by omega)) hN, cPa_of (fun a b z => kc a b (by omega)) hPa, cIm_of (fun a b z => kc a b (by omega)) hIm, cHe_of (fun a b z => kc a b (by omega)) hHe, ⟨rfl, (kc _ _ (by omega)).trans bk1, (kc _ _ (by omega)).trans bk2, fun i hi => ?_⟩, cTx_of (fun a b z => kc a b (by omega)) hTx, (kc _ _ (by omega)).trans hF, (kc _ _ (by omega)).trans hS, cSc_of (fun a b z => kc a b (by omega)) hSc⟩
    unfold up1
    by_cases z : i = m
    · constructor
      · rw [gi_up, if_neg (by omega), gi_up, if_neg (by omega), gi_up, if_pos ⟨rfl, z⟩, if_pos z]
      · rw [gi_up, if_neg (by omega), gi_up, if_pos ⟨rfl, z⟩, if_pos z]
    · constructor
      · rw [gi_up, if_neg (by omega), gi_up, if_neg (by omega), gi_up, if_neg (by omega), if_neg z]
        exact (bk3 i (by omega)).1
      · rw [gi_up, if_neg (by omega), gi_up, if_neg (by omega), gi_up, if_neg (by omega), if_neg z]
        exact (bk3 i (by omega)).2
  generalize hτ : dm_up (dm_up (dm_up σ 108 m (.int (nI g))) 109 m (.int (nI e))) 107 0 (.int (nI (m + 1))) = τ at hCA2 kc
  have x1 : τ 0 9 = (.ref (107 : Nat)) := (kc _ _ (by omega)).trans b10
  have x2 : τ 107 0 = .int (nI (m + 1)) := hCA2.2.2.2.2.2.1.1
  refine ⟨τ, Er_of ?_, ⟨⟨hw, hwn, ⟨hk16, hkp⟩, ⟨hq4, hqi⟩, ⟨hh9, hhs, hht⟩, ⟨by omega, fun i hi => ?_⟩, ⟨hL240, htx⟩, hs31⟩, hCA2⟩, fun a b z => kc a b (by omega)⟩
  · show Wq none 114 0 [some (.ref (0 : Nat)), some (.int (nI g)), some (.int (nI e))] [] σ _
    simp only [w114_0, w114_1, w114_4, w114_5, w114_8, w114_11, w114_12, w114_15, w114_16, w114_19, w114_22, w114_24, w114_25, w114_26, w114_29, w114_32, w114_34, w114_37, w114_39, w114_40, w114_41, w114_44, w114_45, w114_46, w114_49, w114_50, w114_53, w114_56, ks_0, ks_107, kP, b4, b10, bk0, c_hasGuide hC hg hw, c_hasCrossing hC he hw, nI_ne1, h1, c_bkAdd hBk (show m < kl 108 by rw [kl_108]; omega) (show m < kl 109 by rw [kl_109]; omega) (by rw [kl_108]; omega) (by rw [kl_109]; omega), hτ, x1, x2, ↓reduceIte, Option.toList_some, Option.toList_none, List.cons_append, List.nil_append, and_self]
  · unfold up1
    split
    · exact ⟨hg, he⟩
    · exact hmb i (by omega)
theorem q_feed {e : Nat} (hK : KA c n k p q im h hs ht m bg bx L tx f s σ) (he : e < 256) (hm : L < 240) : ∃ τ, Er 77 [(.ref (0 : Nat)), .int (nI e)] σ (some (.int (nI (L + 1)))) τ ∧ KA c n k p q im h hs ht m bg bx (L + 1) (up1 tx L e) f s τ ∧ FZ σ τ := by
  obtain ⟨hWA, hCA⟩ := id hK; obtain ⟨hw, hwn, ⟨hk16, hkp⟩, ⟨hq4, hqi⟩, ⟨hh9, hhs, hht⟩, ⟨hm15, hmb⟩, ⟨hL240, htx⟩, hs31⟩ := id hWA; obtain ⟨⟨P, D, hPD, hB, hC, hD⟩, hN, hPa, hIm, hHe, hBk, hTx, hF, hS, hSc⟩ := id hCA
  obtain ⟨b0, b3, b4, b5, b6, b7, b8, b9, b10, b11, b12⟩ := id hB
  have a1 : ¬ nI e < nI 0 := nI_pos (by omega)
  have a2 : nI e ≤ nI 255 := nI_le (by omega) (by omega)
  have h1 : nI L < nI 240 := (nI_ltI (by omega) (by omega)).mpr (by omega)
  have kc : ∀ a b, ¬ (a = 1 ∨ (a = 0 ∧ b = 1)) → dm_up (dm_up σ 1 L (.int (nI e))) 0 1 (.int (nI (L + 1))) a b = σ a b := fun a b z => by
    rw [up_get, if_neg (by omega), up_get, if_neg (by omega)]
  have hCA2 : CA c n k p q im h hs ht m bg bx (L + 1) (up1 tx L e) f s (dm_up (dm_up σ 1 L (.int (nI e))) 0 1 (.int (nI (L + 1)))) := by
    refine ⟨cPl_of (fun a b z => kc a b (by omega)) ⟨P, D, hPD, hB, hC, hD⟩, cNo_of (fun a b z => kc a b (by omega)) hN, cPa_of (fun a b z => kc a b (by omega)) hPa, cIm_of (fun a b z => kc a b (by omega)) hIm, cHe_of (fun a b z => kc a b (by omega)) hHe, CBk_of (fun a b z => kc a b (by omega)) hBk, ⟨rfl, fun i hi => ?_⟩, (kc _ _ (by omega)).trans hF, (kc _ _ (by omega)).trans hS, cSc_of (fun a b z => kc a b (by omega)) hSc⟩
    rw [gi_up, if_neg (by omega), gi_up]
    unfold up1
    by_cases z : i = L
    · rw [if_pos ⟨rfl, z⟩, if_pos z]
    · rw [if_neg (fun w => z w.2), if_neg z]
      exact hTx.2 i (by omega)
  generalize hτ : dm_up (dm_up σ 1 L (.int (nI e))) 0 1 (.int (nI (L + 1))) = τ at hCA2 kc
  have x0 : dm_up σ 1 L (.int (nI e)) 0 1 = .int (nI L) := hTx.1
  have x1 : τ 0 1 = .int (nI (L + 1)) := hCA2.2.2.2.2.2.2.1.1
  refine ⟨τ, Er_of ?_, ⟨⟨hw, hwn, ⟨hk16, hkp⟩, ⟨hq4, hqi⟩, ⟨hh9, hhs, hht⟩, ⟨hm15, hmb⟩, ⟨by omega, fun i hi => ?_⟩, hs31⟩, hCA2⟩, fun a b z => kc a b (by omega)⟩
  · show Wq none 77 0 [some (.ref (0 : Nat)), some (.int (nI e))] [] σ _
    simp only [w77_0, w77_1, w77_4, w77_5, w77_8, w77_11, w77_13, w77_14, w77_15, w77_18, w77_21, w77_24, w77_26, w77_27, w77_28, w77_31, w77_32, w77_35, w77_36, w77_39, w77_40, w77_40i, w77_41, w77_44, w77_45, w77_46, w77_49, w77_50, w77_53, ks_0, a1, a2, hTx.1, h1, b0, c_put kt_1 (show L < kl 1 by rw [kl_1]; omega) (by rw [kl_1]; omega), x0, nI_add, hτ, x1, ↓reduceIte, Option.toList_some, Option.toList_none, List.cons_append, List.nil_append, and_self]
  · unfold up1
    split
    · exact he
    · exact htx i (by omega)
end KEX
