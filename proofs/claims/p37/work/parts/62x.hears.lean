section HEX
variable {σ : dm_G} {c n : Nat → Nat} {k : Nat} {p : Nat → Nat → Nat} {q : Nat} {im : Nat → Nat → Nat} {h : Nat} {hs ht : Nat → Nat} {m : Nat} {bg bx : Nat → Nat} {L : Nat} {tx : Nat → Nat} {f : Int32} {s : Nat}
theorem q_begin {e : Nat} (hK : KA c n k p q im h hs ht m bg bx L tx f s σ) (he : e < 6) : ∃ τ, Er 110 [(.ref (0 : Nat)), .int (nI e)] σ (some (.int (nI (hrN c (up1 hs 0 e) ht 1)))) τ ∧ KA c n k p q im 1 (up1 hs 0 e) ht m bg bx L tx f s τ ∧ FZ σ τ := by
  obtain ⟨hWA, hCA⟩ := id hK; obtain ⟨hw, hwn, ⟨hk16, hkp⟩, ⟨hq4, hqi⟩, ⟨hh9, hhs, hht⟩, ⟨hm15, hmb⟩, ⟨hL240, htx⟩, hs31⟩ := id hWA; obtain ⟨⟨P, D, hPD, hB, hC, hD⟩, hN, hPa, hIm, hHe, hBk, hTx, hF, hS, hSc⟩ := id hCA
  obtain ⟨b0, b3, b4, b5, b6, b7, b8, b9, b10, b11, b12⟩ := id hB
  obtain ⟨w0, w2, w3, w4, w5, w6, w7, w8, w9⟩ := id hw
  have hP14 : P ≤ 14 := by omega
  have kP := hC.1.1
  have a1 : ¬ nI e < nI 0 := nI_pos (by omega)
  have a2 : nI e < nI 6 := (nI_ltI (by omega) (by omega)).mpr he
  have eS := fun Q => c_startWith (Q := Q) (hs := up1 hs 0 e) (ht := ht) hC hP14 hw hHe.1 up1_eq (show e < 2 ^ 31 by omega)
  let τ1 : dm_G := hst σ (nI 0) (nI (stN c (up1 hs 0 e) ht 0 (c 0))) (c 0) nI
  have kc : ∀ a b, ¬ (a = 105 ∨ a = 106) → τ1 a b = σ a b := fun a b z => by
    show hst σ _ _ _ _ a b = _
    rw [hst_cell (by omega)]
  have hHe1 : cHe c 1 (up1 hs 0 e) ht τ1 := ⟨hst_2.trans hHe.1, fun z => absurd z (by omega), fun _ => ⟨hst_0, hst_1, fun x hx => by
    show gi (hst σ _ _ _ _) 106 x = _
    rw [hst_gi, if_pos hx]
    rfl⟩⟩
  have hCA2 : CA c n k p q im 1 (up1 hs 0 e) ht m bg bx L tx f s τ1 := ⟨cPl_of (fun a b z => kc a b (by omega)) ⟨P, D, hPD, hB, hC, hD⟩, cNo_of (fun a b z => kc a b (by omega)) hN, cPa_of (fun a b z => kc a b (by omega)) hPa, cIm_of (fun a b z => kc a b (by omega)) hIm, hHe1, CBk_of (fun a b z => kc a b (by omega)) hBk, cTx_of (fun a b z => kc a b (by omega)) hTx, (kc _ _ (by omega)).trans hF, (kc _ _ (by omega)).trans hS, cSc_of (fun a b z => kc a b (by omega)) hSc⟩
  have hhs' : ∀ j, up1 hs 0 e j < 6 := fun j => by
    unfold up1
    split
    · exact he
    · exact hhs j
  refine ⟨τ1, Er_of ?_, ⟨⟨hw, hwn, ⟨hk16, hkp⟩, ⟨hq4, hqi⟩, ⟨by omega, hhs', hht⟩, ⟨hm15, hmb⟩, ⟨hL240, htx⟩, hs31⟩, hCA2⟩, fun a b z => kc a b (by omega)⟩
  show Wq none 110 0 [some (.ref (0 : Nat)), some (.int (nI e))] [] σ _
  have x1 : τ1 0 8 = (.ref (105 : Nat)) := (kc _ _ (by omega)).trans b9
  have eS' : ∀ Q : Option Value → dm_G → Prop, Cq 25 [(.ref (105 : Nat)), .ref P, .int (nI e)] σ Q = Q none τ1 := eS
  simp only [w110_0, w110_1, w110_4, w110_5, w110_7, w110_10, w110_12, w110_13, w110_14, w110_17, w110_18, w110_21, w110_22, w110_25, w110_26, w110_29, w110_32, ks_0, ks_105, a1, a2, b4, b9, eS', x1, c_hereC hw hht hHe1, ↓reduceIte, Option.toList_some, Option.toList_none, List.cons_append, List.nil_append, and_self]
theorem q_hear {t e : Nat} (hK : KA c n k p q im (h + 1) hs ht m bg bx L tx f s σ) (ht3 : t < 3) (he : e < 6) (h8 : h < 8) : ∃ τ, Er 111 [(.ref (0 : Nat)), .int (nI t), .int (nI e)] σ (some (.int (nI (hrN c (up1 hs (h + 1) e) (up1 ht (h + 1) t) (h + 2))))) τ ∧ KA c n k p q im (h + 2) (up1 hs (h + 1) e) (up1 ht (h + 1) t) m bg bx L tx f s τ ∧ FZ σ τ := by
  obtain ⟨hWA, hCA⟩ := id hK; obtain ⟨hw, hwn, ⟨hk16, hkp⟩, ⟨hq4, hqi⟩, ⟨hh9, hhs, hht⟩, ⟨hm15, hmb⟩, ⟨hL240, htx⟩, hs31⟩ := id hWA; obtain ⟨⟨P, D, hPD, hB, hC, hD⟩, hN, hPa, hIm, hHe, hBk, hTx, hF, hS, hSc⟩ := id hCA
  obtain ⟨b0, b3, b4, b5, b6, b7, b8, b9, b10, b11, b12⟩ := id hB
  obtain ⟨w0, w2, w3, w4, w5, w6, w7, w8, w9⟩ := id hw
  have hP14 : P ≤ 14 := by omega
  have kP := hC.1.1
  have a1 : ¬ nI t < nI 0 := nI_pos (by omega)
  have a2 : ¬ nI 3 ≤ nI t := nI_ge ht3 (by omega)
  have c1 : ¬ nI e < nI 0 := nI_pos (by omega)
  have c2 : nI e < nI 6 := (nI_ltI (by omega) (by omega)).mpr he
  obtain ⟨z0, z1, z2⟩ := hHe.2.2 (by omega)
  rw [Nat.add_sub_cancel] at z0 z1 z2
  have d1 : ¬ nI h = -1 := fun q => nI_m1 (show h < 2 ^ 31 by omega) q.symm
  have d3 : nI h < nI 8 := (nI_ltI (by omega) (by omega)).mpr (by omega)
  have hhs' : ∀ j, up1 hs (h + 1) e j < 6 := fun j => by
    unfold up1
    split
    · exact he
    · exact hhs j
  have hht' : ∀ j, up1 ht (h + 1) t j < 3 := fun j => by
    unfold up1
    split
    · exact ht3
    · exact hht j
  have cg1 : ∀ j, j ≤ h → up1 hs (h + 1) e j = hs j := fun j hj => up1_ne (by omega)
  have cg2 : ∀ j, 1 ≤ j → j ≤ h → up1 ht (h + 1) t j = ht j := fun j _ hj => up1_ne (by omega)
  have eS := fun Q => c_hearAdd (Q := Q) (k := h) (hs := up1 hs (h + 1) e) (ht := up1 ht (h + 1) t) hC hP14 hw hht' (hhs' _) hHe.1 z0 (z1.trans (by rw [stN_cg cg1 cg2])) (fun x hx => (z2 x hx).trans (by rw [psN_cg h cg2]))
  rw [up1_eq, up1_eq] at eS
  let τ1 : dm_G := hst σ (nI (h + 1)) (nI (stN c (up1 hs (h + 1) e) (up1 ht (h + 1) t) (h + 1) (c 0))) (c 0) (fun x => nI (psN c (up1 ht (h + 1) t) x (h + 1)))
  have kc : ∀ a b, ¬ (a = 105 ∨ a = 106) → τ1 a b = σ a b := fun a b z => by
    show hst σ _ _ _ _ a b = _
    rw [hst_cell (by omega)]
  have hHe1 : cHe c (h + 2) (up1 hs (h + 1) e) (up1 ht (h + 1) t) τ1 := ⟨hst_2.trans hHe.1, fun z => absurd z (by omega), fun _ => ⟨hst_0, hst_1, fun x hx => by
    show gi (hst σ _ _ _ _) 106 x = _
    rw [hst_gi, if_pos hx]
    rfl⟩⟩
  have hCA2 : CA c n k p q im (h + 2) (up1 hs (h + 1) e) (up1 ht (h + 1) t) m bg bx L tx f s τ1 := ⟨cPl_of (fun a b z => kc a b (by omega)) ⟨P, D, hPD, hB, hC, hD⟩, cNo_of (fun a b z => kc a b (by omega)) hN, cPa_of (fun a b z => kc a b (by omega)) hPa, cIm_of (fun a b z => kc a b (by omega)) hIm, hHe1, CBk_of (fun a b z => kc a b (by omega)) hBk, cTx_of (fun a b z => kc a b (by omega)) hTx, (kc _ _ (by omega)).trans hF, (kc _ _ (by omega)).trans hS, cSc_of (fun a b z => kc a b (by omega)) hSc⟩
  refine ⟨τ1, Er_of ?_, ⟨⟨hw, hwn, ⟨hk16, hkp⟩, ⟨hq4, hqi⟩, ⟨by omega, hhs', hht'⟩, ⟨hm15, hmb⟩, ⟨hL240, htx⟩, hs31⟩, hCA2⟩, fun a b z => kc a b (by omega)⟩
  show Wq none 111 0 [some (.ref (0 : Nat)), some (.int (nI t)), some (.int (nI e))] [] σ _
  have x1 : τ1 0 8 = (.ref (105 : Nat)) := (kc _ _ (by omega)).trans b9
  have eS' : ∀ Q : Option Value → dm_G → Prop, Cq 26 [(.ref (105 : Nat)), .ref P, .int (nI t), .int (nI e)] σ Q = Q none τ1 := eS
  simp only [w111_0, w111_1, w111_4, w111_5, w111_6, w111_9, w111_10, w111_13, w111_14, w111_16, w111_19, w111_21, w111_22, w111_23, w111_26, w111_29, w111_30, w111_33, w111_35, w111_36, w111_37, w111_40, w111_43, w111_45, w111_48, w111_50, w111_51, w111_52, w111_55, w111_56, w111_59, w111_60, w111_61, w111_64, w111_65, w111_68, w111_71, ks_0, ks_105, a1, a2, c1, c2, b4, b9, z0, d1, d3, eS', x1, c_hereC hw hht' hHe1, ↓reduceIte, Option.toList_some, Option.toList_none, List.cons_append, List.nil_append, and_self]
theorem q_hear_9 {t e : Nat} (hK : KA c n k p q im 9 hs ht m bg bx L tx f s σ) (ht3 : t < 3) (he : e < 6) : Er 111 [(.ref (0 : Nat)), .int (nI t), .int (nI e)] σ (some (.int (-1000000004))) σ := by
  obtain ⟨hWA, hCA⟩ := id hK; obtain ⟨hw, hwn, ⟨hk16, hkp⟩, ⟨hq4, hqi⟩, ⟨hh9, hhs, hht⟩, ⟨hm15, hmb⟩, ⟨hL240, htx⟩, hs31⟩ := id hWA; obtain ⟨⟨P, D, hPD, hB, hC, hD⟩, hN, hPa, hIm, hHe, hBk, hTx, hF, hS, hSc⟩ := id hCA
  obtain ⟨b0, b3, b4, b5, b6, b7, b8, b9, b10, b11, b12⟩ := id hB
  have a1 : ¬ nI t < nI 0 := nI_pos (by omega)
  have a2 : ¬ nI 3 ≤ nI t := nI_ge ht3 (by omega)
  have c1 : ¬ nI e < nI 0 := nI_pos (by omega)
  have c2 : nI e < nI 6 := (nI_ltI (by omega) (by omega)).mpr he
  obtain ⟨z0, z1, z2⟩ := hHe.2.2 (by omega)
  have d1 : ¬ nI 8 = -1 := by decide
  refine Er_of ?_
  show Wq none 111 0 [some (.ref (0 : Nat)), some (.int (nI t)), some (.int (nI e))] [] σ _
  simp only [w111_0, w111_1, w111_4, w111_5, w111_6, w111_9, w111_10, w111_13, w111_14, w111_16, w111_19, w111_21, w111_22, w111_23, w111_26, w111_29, w111_30, w111_33, w111_35, w111_36, w111_37, w111_40, w111_43, w111_45, w111_48, w111_50, w111_51, w111_52, w111_55, w111_56, w111_59, w111_60, w111_61, w111_64, w111_65, w111_68, w111_71, ks_0, ks_105, a1, a2, c1, c2, b9, z0, Nat.reduceSub, d1, (by decide : ¬ nI 8 < nI 8), ↓reduceIte, Option.toList_some, Option.toList_none, List.cons_append, List.nil_append, and_self]
end HEX
