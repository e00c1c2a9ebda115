section IMX
variable {σ : dm_G} {c n : Nat → Nat} {k : Nat} {p : Nat → Nat → Nat} {q : Nat} {im : Nat → Nat → Nat} {h : Nat} {hs ht : Nat → Nat} {m : Nat} {bg bx : Nat → Nat} {L : Nat} {tx : Nat → Nat} {f : Int32} {s : Nat}
theorem q_keep {i : Nat} (hK : KA c n k p q im h hs ht m bg bx L tx f s σ) (hi : i < 2) : ∃ τ, Er 118 [(.ref (0 : Nat)), .int (nI i)] σ (some (.int (nI 1))) τ ∧ KA c n 0 p (q ||| 1 <<< i) (fun j => if j = i then up1 n 22 s else im j) h hs ht m bg bx L tx f s τ ∧ FZ σ τ := by
  obtain ⟨hWA, hCA⟩ := id hK; obtain ⟨hw, hwn, ⟨hk16, hkp⟩, ⟨hq4, hqi⟩, ⟨hh9, hhs, hht⟩, ⟨hm15, hmb⟩, ⟨hL240, htx⟩, hs31⟩ := id hWA; obtain ⟨⟨P, D, hPD, hB, hC, hD⟩, hN, hPa, hIm, hHe, hBk, hTx, hF, hS, hSc⟩ := id hCA
  obtain ⟨b0, b3, b4, b5, b6, b7, b8, b9, b10, b11, b12⟩ := id hB
  obtain ⟨w0, w2, w3, w4, w5, w6, w7, w8, w9⟩ := id hw
  have a1 : ¬ nI i < nI 0 := nI_pos (by omega)
  have a2 : nI i < nI 2 := (nI_ltI (by omega) (by omega)).mpr hi
  obtain ⟨⟨p0, p1, p2, p3⟩, iS, iN⟩ := id hIm
  obtain ⟨u, hu, hP, hSR, hp⟩ := id hPa
  have eT := fun Q => c_imTake (Q := Q) (d := s) ⟨p0, p1, p2, p3⟩ hq4 hi SK_24 hN.2.1 ⟨SK_i i hi, iS i hi⟩ (CN_iN hN)
  let τ1 : dm_G := dm_up (dm_up (beF (96 + 4 * i) 24 σ) 104 i (.int (nI s))) 94 2 (.int (nI (q ||| 1 <<< i)))
  have k1 : ∀ a b, ¬ ((96 ≤ a ∧ a < 105) ∨ (a = 94 ∧ b = 2)) → τ1 a b = σ a b := fun a b z => by
    show dm_up (dm_up (beF (96 + 4 * i) 24 σ) 104 i _) 94 2 _ a b = _
    rw [up_get, if_neg (by omega), up_get, if_neg (by omega), be_out (by omega)]
  have kb : ∀ a b, ¬ (a = 104 ∨ (a = 94 ∧ b = 2)) → τ1 a b = beF (96 + 4 * i) 24 σ a b := fun a b z => by
    show dm_up (dm_up (beF (96 + 4 * i) 24 σ) 104 i _) 94 2 _ a b = _
    rw [up_get, if_neg (by omega), up_get, if_neg (by omega)]
  have eP := fun Q => c_pastClear (Q := Q) (σ := τ1) (CP_of (fun a b z => k1 a b (by omega)) hP)
  let τ2 : dm_G := dm_up τ1 28 2 (.int (nI 0))
  have k2 : ∀ a b, ¬ (a = 28 ∧ b = 2) → τ2 a b = τ1 a b := fun a b z => by
    show dm_up τ1 28 2 _ a b = _
    rw [up_get, if_neg z]
  have k12 : ∀ a b, ¬ ((96 ≤ a ∧ a < 105) ∨ (a = 94 ∧ b = 2) ∨ (a = 28 ∧ b = 2)) → τ2 a b = σ a b := fun a b z => (k2 a b (by omega)).trans (k1 a b (by omega))
  have hCA2 : CA c n 0 p (q ||| 1 <<< i) (fun j => if j = i then up1 n 22 s else im j) h hs ht m bg bx L tx f s τ2 := by
    refine ⟨cPl_of (fun a b z => k12 a b (by omega)) ⟨P, D, hPD, hB, hC, hD⟩, cNo_of (fun a b z => k12 a b (by omega)) hN, ⟨u, hu, ⟨?_, ?_, ?_, ?_⟩, fun j hj => SR_of (fun b => k12 _ b (by omega)) (hSR j hj), fun j hj => absurd hj (by omega)⟩, ⟨⟨?_, ?_, ?_, ?_⟩, fun j hj => ?_, fun j hj hb => ?_⟩, cHe_of (fun a b z => k12 a b (by omega)) hHe, CBk_of (fun a b z => k12 a b (by omega)) hBk, cTx_of (fun a b z => k12 a b (by omega)) hTx, (k12 _ _ (by omega)).trans hF, (k12 _ _ (by omega)).trans hS, cSc_of (fun a b z => k12 a b (by omega)) hSc⟩
    · exact (k12 _ _ (by omega)).trans hP.1
    · exact (k12 _ _ (by omega)).trans hP.2.1
    · rfl
    · intro j hj
      exact (k12 _ _ (by omega)).trans (hP.2.2.2 j hj)
    · exact (k12 _ _ (by omega)).trans p0
    · exact (k12 _ _ (by omega)).trans p1
    · exact (k2 _ _ (by omega)).trans rfl
    · intro j hj
      exact (k12 _ _ (by omega)).trans (p3 j hj)
    · by_cases z : j = i
      · subst z
        refine SR_of (σ := beF (96 + 4 * j) 24 σ) (fun b => (k2 _ _ (by omega)).trans (kb _ _ (by omega))) ?_
        exact ⟨(be_rf (by omega)).trans (iS j hj).1, (be_rf (by omega)).trans (iS j hj).2.1, (be_rf (by omega)).trans (iS j hj).2.2⟩
      · exact SR_of (fun b => (k2 _ _ (by omega)).trans ((kb _ _ (by omega)).trans (be_out (by omega)))) (iS j hj)
    · by_cases z : j = i
      · subst z
        dsimp only
        rw [if_pos rfl, up1_eq]
        refine ⟨CN_22 w2 (CN_of (σ := beF (96 + 4 * j) 24 σ) (fun l b hl => (k2 _ _ (by omega)).trans (kb _ _ (by omega))) (be_CN (SK_i j hj) (iS j hj) w2 hN (Or.inr (by omega)))), ?_⟩
        rw [gi_of (k2 _ _ (by omega))]
        show gi (dm_up (dm_up (beF (96 + 4 * j) 24 σ) 104 j _) 94 2 _) 104 j = _
        rw [gi_up, if_neg (by omega), gi_up, if_pos ⟨rfl, rfl⟩]
      · dsimp only
        rw [if_neg z]
        rw [tb_or1] at hb
        have hb : q.testBit j = true := by
          rcases Bool.or_eq_true _ _ |>.mp hb with hb | hb
          · exact hb
          · exact absurd (of_decide_eq_true hb).symm z
        refine ⟨CN_of (fun l b hl => (k2 _ _ (by omega)).trans ((kb _ _ (by omega)).trans (be_out (by omega)))) (iN j hj hb).1, ?_⟩
        rw [gi_of (k2 _ _ (by omega))]
        show gi (dm_up (dm_up (beF (96 + 4 * i) 24 σ) 104 i _) 94 2 _) 104 j = _
        rw [gi_up, if_neg (by omega), gi_up, if_neg (fun w => z w.2), gi_of (be_out (by omega))]
        exact (iN j hj hb).2
  have hW3 : WA c n 0 p (q ||| 1 <<< i) (fun j => if j = i then up1 n 22 s else im j) h hs ht m bg bx L tx s := by
    refine ⟨hw, hwn, ⟨by omega, fun j hj => absurd hj (by omega)⟩, ⟨or_lt (n := 2) hq4 (one_shl hi), fun j hj hb => ?_⟩, ⟨hh9, hhs, hht⟩, ⟨hm15, hmb⟩, ⟨hL240, htx⟩, hs31⟩
    dsimp only
    by_cases z : j = i
    · rw [if_pos z, up1_eq]
      exact ⟨WN_22 hw hwn, hs31⟩
    · rw [if_neg z]
      rw [tb_or1] at hb
      have hb : q.testBit j = true := by
        rcases Bool.or_eq_true _ _ |>.mp hb with hb | hb
        · exact hb
        · exact absurd (of_decide_eq_true hb).symm z
      exact hqi j hj hb
  refine ⟨τ2, Er_of ?_, ⟨hW3, hCA2⟩, fun a b z => k12 a b (by omega)⟩
  show Wq none 118 0 [some (.ref (0 : Nat)), some (.int (nI i))] [] σ _
  have x1 : τ1 0 6 = (.ref (28 : Nat)) := (k1 _ _ (by omega)).trans b7
  have eT' : ∀ Q : Option Value → dm_G → Prop, Cq 33 [(.ref (94 : Nat)), .int (nI i), (.ref (24 : Nat)), .int (nI s)] σ Q = Q none τ1 := eT
  have eP' : ∀ Q : Option Value → dm_G → Prop, Cq 47 [(.ref (28 : Nat))] τ1 Q = Q none τ2 := eP
  simp only [w118_0, w118_1, w118_4, w118_5, w118_6, w118_9, w118_11, w118_12, w118_13, w118_16, w118_17, w118_18, w118_21, w118_22, w118_25, w118_28, w118_29, w118_32, w118_35, w118_36, ks_0, ks_94, ks_28, a1, a2, b6, b8, hS, eT', x1, eP', ↓reduceIte, Option.toList_some, Option.toList_none, List.cons_append, List.nil_append, and_self]
theorem q_goBack {i : Nat} (hK : KA c n k p q im h hs ht m bg bx L tx f s σ) (hi : i < 2) (hb : q.testBit i = true) : ∃ τ, Er 119 [(.ref (0 : Nat)), .int (nI i)] σ (some (.int (nI 1))) τ ∧ KA c (im i) 0 p q im h hs ht m bg bx L tx f (im i 22) τ ∧ FZ σ τ := by
  obtain ⟨hWA, hCA⟩ := id hK; obtain ⟨hw, hwn, ⟨hk16, hkp⟩, ⟨hq4, hqi⟩, ⟨hh9, hhs, hht⟩, ⟨hm15, hmb⟩, ⟨hL240, htx⟩, hs31⟩ := id hWA; obtain ⟨⟨P, D, hPD, hB, hC, hD⟩, hN, hPa, hIm, hHe, hBk, hTx, hF, hS, hSc⟩ := id hCA
  obtain ⟨b0, b3, b4, b5, b6, b7, b8, b9, b10, b11, b12⟩ := id hB
  obtain ⟨w0, w2, w3, w4, w5, w6, w7, w8, w9⟩ := id hw
  have a1 : ¬ nI i < nI 0 := nI_pos (by omega)
  have a2 : nI i < nI 2 := (nI_ltI (by omega) (by omega)).mpr hi
  obtain ⟨hCI, iS, iN⟩ := id hIm
  obtain ⟨u, hu, hP, hSR, hp⟩ := id hPa
  obtain ⟨hNi, hsd⟩ := iN i hi hb
  obtain ⟨hwi, hs22⟩ := hqi i hi hb
  have eB := fun Q => c_imBack (Q := Q) hCI hi SK_24 hN.2.1 ⟨SK_i i hi, iS i hi⟩ (CN_iN hNi)
  let τ1 : dm_G := beF 24 (96 + 4 * i) σ
  have k1 : ∀ a b, ¬ (24 ≤ a ∧ a < 28) → τ1 a b = σ a b := fun a b z => be_out (by omega)
  have hCI1 : CI τ1 q := ⟨(k1 _ _ (by omega)).trans hCI.1, (k1 _ _ (by omega)).trans hCI.2.1, (k1 _ _ (by omega)).trans hCI.2.2.1, fun j hj => (k1 _ _ (by omega)).trans (hCI.2.2.2 j hj)⟩
  have eD := fun Q => c_imDrawn (σ := τ1) (Q := Q) hCI1 hi
  rw [gi_of (k1 _ _ (by omega)), hsd] at eD
  let τ2 : dm_G := dm_up τ1 0 12 (.int (nI (im i 22)))
  have k2 : ∀ a b, ¬ ((24 ≤ a ∧ a < 28) ∨ (a = 0 ∧ b = 12)) → τ2 a b = σ a b := fun a b z => by
    show dm_up τ1 0 12 _ a b = _
    rw [up_get, if_neg (by omega), k1 _ _ (by omega)]
  have eP := fun Q => c_pastClear (Q := Q) (σ := τ2) (CP_of (fun a b z => k2 a b (by omega)) hP)
  let τ3 : dm_G := dm_up τ2 28 2 (.int (nI 0))
  have k3 : ∀ a b, ¬ ((24 ≤ a ∧ a < 28) ∨ (a = 0 ∧ b = 12) ∨ (a = 28 ∧ b = 2)) → τ3 a b = σ a b := fun a b z => by
    show dm_up τ2 28 2 _ a b = _
    rw [up_get, if_neg (by omega), k2 _ _ (by omega)]
  have hCA2 : CA c (im i) 0 p q im h hs ht m bg bx L tx f (im i 22) τ3 := by
    refine ⟨cPl_of (fun a b z => k3 a b (by omega)) ⟨P, D, hPD, hB, hC, hD⟩, ?_, ⟨u, hu, ⟨?_, ?_, ?_, ?_⟩, fun j hj => SR_of (fun b => k3 _ b (by omega)) (hSR j hj), fun j hj => absurd hj (by omega)⟩, cIm_of (fun a b z => k3 a b (by omega)) hIm, cHe_of (fun a b z => k3 a b (by omega)) hHe, CBk_of (fun a b z => k3 a b (by omega)) hBk, cTx_of (fun a b z => k3 a b (by omega)) hTx, (k3 _ _ (by omega)).trans hF, rfl, cSc_of (fun a b z => k3 a b (by omega)) hSc⟩
    · refine CN_of (σ := τ1) (fun j b hj => ?_) (be_CN SK_24 hN.2.1 w2 hNi (Or.inl (by omega)))
      show dm_up (dm_up τ1 0 12 _) 28 2 _ (24 + j) b = _
      rw [up_get, if_neg (by omega), up_get, if_neg (by omega)]
    · exact (k3 _ _ (by omega)).trans hP.1
    · exact (k3 _ _ (by omega)).trans hP.2.1
    · rfl
    · intro j hj
      exact (k3 _ _ (by omega)).trans (hP.2.2.2 j hj)
  refine ⟨τ3, Er_of ?_, ⟨⟨hw, hwi, ⟨by omega, fun j hj => absurd hj (by omega)⟩, ⟨hq4, hqi⟩, ⟨hh9, hhs, hht⟩, ⟨hm15, hmb⟩, ⟨hL240, htx⟩, hs22⟩, hCA2⟩, fun a b z => k3 a b (by omega)⟩
  show Wq none 119 0 [some (.ref (0 : Nat)), some (.int (nI i))] [] σ _
  have x1 : τ1 0 7 = (.ref (94 : Nat)) := b8
  have x2 : τ2 0 6 = (.ref (28 : Nat)) := b7
  have eB' : ∀ Q : Option Value → dm_G → Prop, Cq 34 [(.ref (94 : Nat)), .int (nI i), (.ref (24 : Nat))] σ Q = Q none τ1 := eB
  have eP' : ∀ Q : Option Value → dm_G → Prop, Cq 47 [(.ref (28 : Nat))] τ2 Q = Q none τ3 := eP
  simp only [w119_0, w119_1, w119_4, w119_5, w119_6, w119_9, w119_11, w119_12, w119_13, w119_16, w119_17, w119_20, w119_23, w119_25, w119_26, w119_27, w119_30, w119_31, w119_32, w119_35, w119_38, w119_39, w119_40, w119_43, w119_44, w119_47, w119_51, w119_54, w119_57, w119_58, ks_0, ks_94, a1, a2, b6, b8, c_imHas hCI hq4 hi, hb, nI_ne1, eB', x1, eD, ↓reduceIte, Option.toList_some, Option.toList_none, List.cons_append, List.nil_append]
  show Wq none 119 50 [some (.ref (0 : Nat)), some (.int (nI i))] [] τ2 _
  simp only [w119_0, w119_1, w119_4, w119_5, w119_6, w119_9, w119_11, w119_12, w119_13, w119_16, w119_17, w119_20, w119_23, w119_25, w119_26, w119_27, w119_30, w119_31, w119_32, w119_35, w119_38, w119_39, w119_40, w119_43, w119_44, w119_47, w119_50, w119_51, w119_54, w119_57, w119_58, ks_0, ks_28, x2, eP', ↓reduceIte, Option.toList_some, Option.toList_none, List.cons_append, List.nil_append, and_self]
end IMX
