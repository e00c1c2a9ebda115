/-! what is heard: both sides as calls -/
theorem psN_cg {c ht ht' : Nat → Nat} {x : Nat} : ∀ k, (∀ j, 1 ≤ j → j ≤ k → ht' j = ht j) → psN c ht' x k = psN c ht x k := by
  intro k
  induction k with
  | zero => intro _; rfl
  | succ k ih =>
    intro h
    rw [psN, psN, ih (fun j h1 h2 => h j h1 (by omega)), h (k + 1) (by omega) (Nat.le_refl _)]
theorem okN_cg {c hs hs' ht ht' : Nat → Nat} {x : Nat} : ∀ k, (∀ j, j ≤ k → hs' j = hs j) → (∀ j, 1 ≤ j → j ≤ k → ht' j = ht j) → okN c hs' ht' x k = okN c hs ht x k := by
  intro k
  induction k with
  | zero => intro h _; rw [okN, okN, h 0 (Nat.le_refl _)]
  | succ k ih =>
    intro h h2
    rw [okN, okN, ih (fun j h3 => h j (by omega)) (fun j h3 h4 => h2 j h3 (by omega)), psN_cg (k + 1) h2, h (k + 1) (Nat.le_refl _)]
theorem stN_cg {c hs hs' ht ht' : Nat → Nat} {k : Nat} (h : ∀ j, j ≤ k → hs' j = hs j) (h2 : ∀ j, 1 ≤ j → j ≤ k → ht' j = ht j) : ∀ x, stN c hs' ht' k x = stN c hs ht k x := by
  intro x
  induction x with
  | zero => rfl
  | succ x ih => rw [stN, stN, ih, okN_cg k h h2]
section HE
variable {σ σ' : dm_G} {Q : Option Value → dm_G → Prop} {S G : Nat} {c n : Nat → Nat} {k : Nat} {p : Nat → Nat → Nat} {q : Nat} {im : Nat → Nat → Nat} {h : Nat} {hs ht : Nat → Nat} {m : Nat} {bg bx : Nat → Nat} {L : Nat} {tx : Nat → Nat} {f : Int32} {s : Nat}
theorem pr_begin (x : Int32) (hI : Inv σ) : Pr Inv 110 197 [.int x] σ := by
  obtain ⟨c, n, k, p, q, im, h, hs, ht, m, bg, bx, L, tx, f, s, hWA, hCA, hMA⟩ := id hI; obtain ⟨hw, hwn, ⟨hk16, hkp⟩, ⟨hq4, hqi⟩, ⟨hh9, hhs, hht⟩, ⟨hm15, hmb⟩, ⟨hL240, htx⟩, hs31⟩ := id hWA; obtain ⟨⟨P, D, hPD, hB, hC, hD⟩, hN, hPa, hIm, hHe, hBk, hTx, hF, hS, hSc⟩ := id hCA; obtain ⟨hM, hc, hn, hmP, hmI, hmH, hmB, hmT, hmF, hmS⟩ := id hMA
  obtain ⟨b0, b3, b4, b5, b6, b7, b8, b9, b10, b11, b12⟩ := id hB
  obtain ⟨w0, w2, w3, w4, w5, w6, w7, w8, w9⟩ := id hw
  obtain ⟨m0, m1, m2, m3, m5, m6, m8, m11, m12, m14, m22, m23, m24, m25, m29, m30, m31, m32⟩ := id hM
  have hP14 : P ≤ 14 := by omega
  have kP := hC.1.1
  rcases ix_cs x (show 6 < 2 ^ 31 by omega) with ⟨e, he, rfl⟩ | ⟨hx, hx2⟩
  · have a1 : ¬ nI e < nI 0 := nI_pos (by omega)
    have a2 : nI e < nI 6 := (nI_ltI (by omega) (by omega)).mpr he
    have hin := in_yes (j := e) (N := 5) (by omega) (by omega)
    have eS := fun Q => c_startWith (Q := Q) (hs := up1 hs 0 e) (ht := ht) hC hP14 hw hHe.1 up1_eq (show e < 2 ^ 31 by omega)
    let τ1 : dm_G := hst σ (nI 0) (nI (stN c (up1 hs 0 e) ht 0 (c 0))) (c 0) nI
    have kc : ∀ a b, ¬ (a = 105 ∨ a = 106) → τ1 a b = σ a b := fun a b z => by
      show hst σ _ _ _ _ a b = _
      rw [hst_cell (by omega)]
    have hHe1 : cHe c 1 (up1 hs 0 e) ht τ1 := ⟨hst_2.trans hHe.1, fun z => absurd z (by omega), fun _ => ⟨hst_0, hst_1, fun x hx => by
      show gi (hst σ _ _ _ _) 106 x = _
      rw [hst_gi, if_pos hx]
      rfl⟩⟩
    have hCA2 : CA c n k p q im 1 (up1 hs 0 e) ht m bg bx L tx f s τ1 := ⟨cPl_of (fun a b z => kc a b (by omega)) ⟨P, D, hPD, hB, hC, hD⟩, cNo_of (fun a b z => kc a b (by omega)) hN, cPa_of (fun a b z => kc a b (by omega)) hPa, cIm_of (fun a b z => kc a b (by omega)) hIm, hHe1, CBk_of (fun a b z => kc a b (by omega)) hBk, cTx_of (fun a b z => kc a b (by omega)) hTx, (kc _ _ (by omega)).trans hF, (kc _ _ (by omega)).trans hS, cSc_of (fun a b z => kc a b (by omega)) hSc⟩
    have hMA2 := MA_lo hMA (fun a b z => kc a b (by omega))
    obtain ⟨gM, gc, gn, gP, gI, gH, gB, gT, gF, gS⟩ := id hMA2
    let ρ1 : dm_G := dm_up τ1 126 0 (.int (nI e))
    let ρ2 : dm_G := dm_up ρ1 118 13 (.int (nI 1))
    have km : ∀ a b, ¬ (a = 126 ∨ (a = 118 ∧ b = 13)) → ρ2 a b = τ1 a b := fun a b z => by
      show dm_up (dm_up τ1 126 0 _) 118 13 _ a b = _
      rw [up_get, if_neg (by omega), up_get, if_neg (by omega)]
    have gH2 : MH ρ2 1 (up1 hs 0 e) ht := by
      refine ⟨rfl, fun j hj => ?_, fun j h1 hj => absurd hj (by omega)⟩
      obtain rfl : j = 0 := by omega
      rw [up1_eq]
      rfl
    have hMA3 : MA c n k p q im 1 (up1 hs 0 e) ht m bg bx L tx f s ρ2 := ⟨MR_k (fun a b z => km a b (by omega)) gM, MC_k (fun a b z => km a b (by omega)) gc, MN_k (fun a b z => km a b (by omega)) gn, mPa_k (fun a b z => km a b (by omega)) gP, mIm_k (fun a b z => km a b (by omega)) gI, gH2, MB_k (fun a b z => km a b (by omega)) gB, mTx_k (fun a b z => km a b (by omega)) gT, (km _ _ (by omega)).trans gF, (km _ _ (by omega)).trans gS⟩
    have hhs' : ∀ j, up1 hs 0 e j < 6 := fun j => by
      unfold up1
      split
      · exact he
      · exact hhs j
    refine pr_of (v := nI (hrN c (up1 hs 0 e) ht 1)) (σ1 := τ1) (σ2 := ρ2) (fun Q => Cq_of (Er_of ?_)) (fun Q => Cq_of (Er_of ?_)) (inv_mk (s := s) ⟨hw, hwn, ⟨hk16, hkp⟩, ⟨hq4, hqi⟩, ⟨by omega, hhs', hht⟩, ⟨hm15, hmb⟩, ⟨hL240, htx⟩, hs31⟩ hCA2 (fun a b z => km a b (by omega)) hMA3)
    · show Wq none 110 0 [some (.ref (0 : Nat)), some (.int (nI e))] [] σ _
      have x1 : τ1 0 8 = (.ref (105 : Nat)) := (kc _ _ (by omega)).trans b9
      have eS' : ∀ Q : Option Value → dm_G → Prop, Cq 25 [(.ref (105 : Nat)), .ref P, .int (nI e)] σ Q = Q none τ1 := eS
      simp only [w110_0, w110_1, w110_4, w110_5, w110_7, w110_10, w110_12, w110_13, w110_14, w110_17, w110_18, w110_21, w110_22, w110_25, w110_26, w110_29, w110_32, ks_0, ks_105, a1, a2, b4, b9, eS', x1, c_hereC hw hht hHe1, ↓reduceIte, Option.toList_some, Option.toList_none, List.cons_append, List.nil_append, and_self]
    · show Wq none 197 0 [some (.ref (118 : Nat)), some (.int (nI e))] [] τ1 _
      simp only [w197_0, w197_1, w197_2, w197_3, w197_6, w197_9, w197_12, w197_14, w197_15, w197_16, w197_19, w197_20, w197_21, w197_23, w197_24, w197_27, w197_28, w197_29, w197_32, ks_118, c_in, hin, nI_ne1, gM.2.2.2.2.2.2.2.1, kt_126, in_nI (show 0 < kl 126 by rw [kl_126]; omega) (by rw [kl_126]; omega), nI_clamp (show 0 < 2 ^ 31 by omega), ↓reduceIte, Option.toList_some, Option.toList_none, List.cons_append, List.nil_append]
      show Wq none 197 22 [some (.ref (118 : Nat)), some (.int (nI e))] [] ρ1 _
      simp only [w197_0, w197_1, w197_2, w197_3, w197_6, w197_9, w197_12, w197_14, w197_15, w197_16, w197_19, w197_20, w197_21, w197_22, w197_23, w197_24, w197_28, w197_29, w197_32, ks_118, ↓reduceIte, Option.toList_some, Option.toList_none, List.cons_append, List.nil_append]
      show Wq none 197 27 [some (.ref (118 : Nat)), some (.int (nI e))] [] ρ2 _
      simp only [w197_0, w197_1, w197_2, w197_3, w197_6, w197_9, w197_12, w197_14, w197_15, w197_16, w197_19, w197_20, w197_21, w197_22, w197_23, w197_24, w197_27, w197_28, w197_29, w197_32, ks_118, c_hereM hMA3.1 hMA3.2.1 hw gH2 (by omega) hhs' hht, ↓reduceIte, Option.toList_some, Option.toList_none, List.cons_append, List.nil_append, and_self]
  · have hin := in_no (x := x) (N := 5) (by omega) hx2
    refine pr_of (v := -1000000002) (σ1 := σ) (σ2 := σ) (fun Q => Cq_of (Er_of ?_)) (fun Q => Cq_of (Er_of ?_)) hI
    · show Wq none 110 0 [some (.ref (0 : Nat)), some (.int x)] [] σ _
      by_cases h0 : x < nI 0
      · simp only [w110_0, w110_1, w110_4, w110_5, w110_7, w110_10, w110_12, w110_13, w110_14, w110_17, w110_18, w110_21, w110_22, w110_25, w110_26, w110_29, w110_32, ks_0, h0, ↓reduceIte, Option.toList_some, Option.toList_none, List.cons_append, List.nil_append, and_self]
      · simp only [w110_0, w110_1, w110_4, w110_5, w110_7, w110_10, w110_12, w110_13, w110_14, w110_17, w110_18, w110_21, w110_22, w110_25, w110_26, w110_29, w110_32, ks_0, h0, nlt_le h0 hx, ↓reduceIte, Option.toList_some, Option.toList_none, List.cons_append, List.nil_append, and_self]
    · show Wq none 197 0 [some (.ref (118 : Nat)), some (.int x)] [] σ _
      simp only [w197_0, w197_1, w197_2, w197_3, w197_6, w197_9, w197_12, w197_14, w197_15, w197_16, w197_19, w197_20, w197_21, w197_22, w197_23, w197_24, w197_27, w197_28, w197_29, w197_32, ks_118, c_in, hin, ↓reduceIte, Option.toList_some, Option.toList_none, List.cons_append, List.nil_append, and_self]
theorem pr_hear (x y : Int32) (hI : Inv σ) : Pr Inv 111 198 [.int x, .int y] σ := by
  obtain ⟨c, n, k, p, q, im, h, hs, ht, m, bg, bx, L, tx, f, s, hWA, hCA, hMA⟩ := id hI; obtain ⟨hw, hwn, ⟨hk16, hkp⟩, ⟨hq4, hqi⟩, ⟨hh9, hhs, hht⟩, ⟨hm15, hmb⟩, ⟨hL240, htx⟩, hs31⟩ := id hWA; obtain ⟨⟨P, D, hPD, hB, hC, hD⟩, hN, hPa, hIm, hHe, hBk, hTx, hF, hS, hSc⟩ := id hCA; obtain ⟨hM, hc, hn, hmP, hmI, hmH, hmB, hmT, hmF, hmS⟩ := id hMA
  obtain ⟨b0, b3, b4, b5, b6, b7, b8, b9, b10, b11, b12⟩ := id hB
  obtain ⟨w0, w2, w3, w4, w5, w6, w7, w8, w9⟩ := id hw
  obtain ⟨m0, m1, m2, m3, m5, m6, m8, m11, m12, m14, m22, m23, m24, m25, m29, m30, m31, m32⟩ := id hM
  have hP14 : P ≤ 14 := by omega
  have kP := hC.1.1
  rcases ix_cs x (show 3 < 2 ^ 31 by omega) with ⟨t, ht3, rfl⟩ | ⟨hx, hx2⟩
  · have a1 : ¬ nI t < nI 0 := nI_pos (by omega)
    have a2 : ¬ nI 3 ≤ nI t := nI_ge ht3 (by omega)
    have hin := in_yes (j := t) (N := 2) (by omega) (by omega)
    rcases ix_cs y (show 6 < 2 ^ 31 by omega) with ⟨e, he, rfl⟩ | ⟨hy, hy2⟩
    · have c1 : ¬ nI e < nI 0 := nI_pos (by omega)
      have c2 : nI e < nI 6 := (nI_ltI (by omega) (by omega)).mpr he
      have hin2 := in_yes (j := e) (N := 5) (by omega) (by omega)
      cases h with
      | zero =>
        have z0 := (hHe.2.1 rfl).1
        refine pr_of (v := -1000000003) (σ1 := σ) (σ2 := σ) (fun Q => Cq_of (Er_of ?_)) (fun Q => Cq_of (Er_of ?_)) hI
        · show Wq none 111 0 [some (.ref (0 : Nat)), some (.int (nI t)), some (.int (nI e))] [] σ _
          simp only [w111_0, w111_1, w111_4, w111_5, w111_6, w111_9, w111_10, w111_13, w111_14, w111_16, w111_19, w111_21, w111_22, w111_23, w111_26, w111_29, w111_30, w111_33, w111_35, w111_36, w111_37, w111_40, w111_43, w111_45, w111_48, w111_50, w111_51, w111_52, w111_55, w111_56, w111_59, w111_60, w111_61, w111_64, w111_65, w111_68, w111_71, ks_0, ks_105, a1, a2, c1, c2, b9, z0, ↓reduceIte, Option.toList_some, Option.toList_none, List.cons_append, List.nil_append, and_self]
        · show Wq none 198 0 [some (.ref (118 : Nat)), some (.int (nI t)), some (.int (nI e))] [] σ _
          simp only [w198_0, w198_1, w198_2, w198_3, w198_6, w198_9, w198_12, w198_13, w198_14, w198_15, w198_18, w198_21, w198_24, w198_26, w198_27, w198_28, w198_31, w198_34, w198_36, w198_37, w198_38, w198_41, w198_43, w198_46, w198_48, w198_49, w198_50, w198_53, w198_54, w198_57, w198_58, w198_59, w198_60, w198_63, w198_64, w198_67, w198_68, w198_69, w198_70, w198_70i, w198_71, w198_74, w198_75, w198_76, w198_79, w198_80, w198_81, w198_84, ks_118, c_in, hin, hin2, nI_ne1, hmH.1, ↓reduceIte, Option.toList_some, Option.toList_none, List.cons_append, List.nil_append, and_self]
      | succ h =>
        obtain ⟨z0, z1, z2⟩ := hHe.2.2 (by omega)
        rw [Nat.add_sub_cancel] at z0 z1 z2
        have d1 : ¬ nI h = -1 := fun q => nI_m1 (show h < 2 ^ 31 by omega) q.symm
        have d2 : ¬ nI (h + 1) = nI 0 := fun q => by have := nI_inj (by omega) (by omega) q; omega
        by_cases h8 : h = 8
        · subst h8
          refine pr_of (v := -1000000004) (σ1 := σ) (σ2 := σ) (fun Q => Cq_of (Er_of ?_)) (fun Q => Cq_of (Er_of ?_)) hI
          · show Wq none 111 0 [some (.ref (0 : Nat)), some (.int (nI t)), some (.int (nI e))] [] σ _
            simp only [w111_0, w111_1, w111_4, w111_5, w111_6, w111_9, w111_10, w111_13, w111_14, w111_16, w111_19, w111_21, w111_22, w111_23, w111_26, w111_29, w111_30, w111_33, w111_35, w111_36, w111_37, w111_40, w111_43, w111_45, w111_48, w111_50, w111_51, w111_52, w111_55, w111_56, w111_59, w111_60, w111_61, w111_64, w111_65, w111_68, w111_71, ks_0, ks_105, a1, a2, c1, c2, b9, z0, d1, (by decide : ¬ nI 8 < nI 8), ↓reduceIte, Option.toList_some, Option.toList_none, List.cons_append, List.nil_append, and_self]
          · show Wq none 198 0 [some (.ref (118 : Nat)), some (.int (nI t)), some (.int (nI e))] [] σ _
            simp only [w198_0, w198_1, w198_2, w198_3, w198_6, w198_9, w198_12, w198_13, w198_14, w198_15, w198_18, w198_21, w198_24, w198_26, w198_27, w198_28, w198_31, w198_34, w198_36, w198_37, w198_38, w198_41, w198_43, w198_46, w198_48, w198_49, w198_50, w198_53, w198_54, w198_57, w198_58, w198_59, w198_60, w198_63, w198_64, w198_67, w198_68, w198_69, w198_70, w198_70i, w198_71, w198_74, w198_75, w198_76, w198_79, w198_80, w198_81, w198_84, ks_118, c_in, hin, hin2, nI_ne1, hmH.1, d2, Nat.reduceAdd, ↓reduceIte, Option.toList_some, Option.toList_none, List.cons_append, List.nil_append, and_self]
        · have d3 : nI h < nI 8 := (nI_ltI (by omega) (by omega)).mpr (by omega)
          have d4 : ¬ nI (h + 1) = nI 9 := fun q => by have := nI_inj (by omega) (by omega) q; omega
          have hhs' : ∀ j, up1 hs (h + 1) e j < 6 := fun j => by
            unfold up1
            split
            · exact he
            · exact hhs j
          have hht' : ∀ j, up1 ht (h + 1) t j < 3 := fun j => by
            unfold up1
            split
            · exact ht3
            · exact hht j
          have cg1 : ∀ j, j ≤ h → up1 hs (h + 1) e j = hs j := fun j hj => up1_ne (by omega)
          have cg2 : ∀ j, 1 ≤ j → j ≤ h → up1 ht (h + 1) t j = ht j := fun j _ hj => up1_ne (by omega)
          have eS := fun Q => c_hearAdd (Q := Q) (k := h) (hs := up1 hs (h + 1) e) (ht := up1 ht (h + 1) t) hC hP14 hw hht' (hhs' _) hHe.1 z0 (z1.trans (by rw [stN_cg cg1 cg2])) (fun x hx => (z2 x hx).trans (by rw [psN_cg h cg2]))
          rw [up1_eq, up1_eq] at eS
          let τ1 : dm_G := hst σ (nI (h + 1)) (nI (stN c (up1 hs (h + 1) e) (up1 ht (h + 1) t) (h + 1) (c 0))) (c 0) (fun x => nI (psN c (up1 ht (h + 1) t) x (h + 1)))
          have kc : ∀ a b, ¬ (a = 105 ∨ a = 106) → τ1 a b = σ a b := fun a b z => by
            show hst σ _ _ _ _ a b = _
            rw [hst_cell (by omega)]
          have hHe1 : cHe c (h + 2) (up1 hs (h + 1) e) (up1 ht (h + 1) t) τ1 := ⟨hst_2.trans hHe.1, fun z => absurd z (by omega), fun _ => ⟨hst_0, hst_1, fun x hx => by
            show gi (hst σ _ _ _ _) 106 x = _
            rw [hst_gi, if_pos hx]
            rfl⟩⟩
          have hCA2 : CA c n k p q im (h + 2) (up1 hs (h + 1) e) (up1 ht (h + 1) t) m bg bx L tx f s τ1 := ⟨cPl_of (fun a b z => kc a b (by omega)) ⟨P, D, hPD, hB, hC, hD⟩, cNo_of (fun a b z => kc a b (by omega)) hN, cPa_of (fun a b z => kc a b (by omega)) hPa, cIm_of (fun a b z => kc a b (by omega)) hIm, hHe1, CBk_of (fun a b z => kc a b (by omega)) hBk, cTx_of (fun a b z => kc a b (by omega)) hTx, (kc _ _ (by omega)).trans hF, (kc _ _ (by omega)).trans hS, cSc_of (fun a b z => kc a b (by omega)) hSc⟩
          have hMA2 := MA_lo hMA (fun a b z => kc a b (by omega))
          obtain ⟨gM, gc, gn, gP, gI, gH, gB, gT, gF, gS⟩ := id hMA2
          let ρ1 : dm_G := dm_up τ1 127 (h + 1) (.int (nI t))
          let ρ2 : dm_G := dm_up ρ1 126 (h + 1) (.int (nI e))
          let ρ3 : dm_G := dm_up ρ2 118 13 (.int (nI (h + 2)))
          have km : ∀ a b, ¬ (a = 126 ∨ a = 127 ∨ (a = 118 ∧ b = 13)) → ρ3 a b = τ1 a b := fun a b z => by
            show dm_up (dm_up (dm_up τ1 127 (h + 1) _) 126 (h + 1) _) 118 13 _ a b = _
            rw [up_get, if_neg (by omega), up_get, if_neg (by omega), up_get, if_neg (by omega)]
          have gH2 : MH ρ3 (h + 2) (up1 hs (h + 1) e) (up1 ht (h + 1) t) := by
            refine ⟨rfl, fun j hj => ?_, fun j h1 hj => ?_⟩
            · show gi (dm_up (dm_up (dm_up τ1 127 (h + 1) _) 126 (h + 1) _) 118 13 _) 126 j = _
              rw [gi_up, if_neg (by omega), gi_up]
              by_cases z : j = h + 1
              · rw [if_pos ⟨rfl, z⟩, z, up1_eq]
              · rw [if_neg (fun w => z w.2), gi_up, if_neg (by omega), up1_ne z]
                exact gH.2.1 j (by omega)
            · show gi (dm_up (dm_up (dm_up τ1 127 (h + 1) _) 126 (h + 1) _) 118 13 _) 127 j = _
              rw [gi_up, if_neg (by omega), gi_up, if_neg (by omega), gi_up]
              by_cases z : j = h + 1
              · rw [if_pos ⟨rfl, z⟩, z, up1_eq]
              · rw [if_neg (fun w => z w.2), up1_ne z]
                exact gH.2.2 j h1 (by omega)
          have hMA3 : MA c n k p q im (h + 2) (up1 hs (h + 1) e) (up1 ht (h + 1) t) m bg bx L tx f s ρ3 := ⟨MR_k (fun a b z => km a b (by omega)) gM, MC_k (fun a b z => km a b (by omega)) gc, MN_k (fun a b z => km a b (by omega)) gn, mPa_k (fun a b z => km a b (by omega)) gP, mIm_k (fun a b z => km a b (by omega)) gI, gH2, MB_k (fun a b z => km a b (by omega)) gB, mTx_k (fun a b z => km a b (by omega)) gT, (km _ _ (by omega)).trans gF, (km _ _ (by omega)).trans gS⟩
          refine pr_of (v := nI (hrN c (up1 hs (h + 1) e) (up1 ht (h + 1) t) (h + 2))) (σ1 := τ1) (σ2 := ρ3) (fun Q => Cq_of (Er_of ?_)) (fun Q => Cq_of (Er_of ?_)) (inv_mk (s := s) ⟨hw, hwn, ⟨hk16, hkp⟩, ⟨hq4, hqi⟩, ⟨by omega, hhs', hht'⟩, ⟨hm15, hmb⟩, ⟨hL240, htx⟩, hs31⟩ hCA2 (fun a b z => km a b (by omega)) hMA3)
          · show Wq none 111 0 [some (.ref (0 : Nat)), some (.int (nI t)), some (.int (nI e))] [] σ _
            have x1 : τ1 0 8 = (.ref (105 : Nat)) := (kc _ _ (by omega)).trans b9
            have eS' : ∀ Q : Option Value → dm_G → Prop, Cq 26 [(.ref (105 : Nat)), .ref P, .int (nI t), .int (nI e)] σ Q = Q none τ1 := eS
            simp only [w111_0, w111_1, w111_4, w111_5, w111_6, w111_9, w111_10, w111_13, w111_14, w111_16, w111_19, w111_21, w111_22, w111_23, w111_26, w111_29, w111_30, w111_33, w111_35, w111_36, w111_37, w111_40, w111_43, w111_45, w111_48, w111_50, w111_51, w111_52, w111_55, w111_56, w111_59, w111_60, w111_61, w111_64, w111_65, w111_68, w111_71, ks_0, ks_105, a1, a2, c1, c2, b4, b9, z0, d1, d3, eS', x1, c_hereC hw hht' hHe1, ↓reduceIte, Option.toList_some, Option.toList_none, List.cons_append, List.nil_append, and_self]
          · show Wq none 198 0 [some (.ref (118 : Nat)), some (.int (nI t)), some (.int (nI e))] [] τ1 _
            have y1 : ρ1 118 11 = (.ref (126 : Nat)) := gM.2.2.2.2.2.2.2.1
            have y2 : ρ1 118 13 = .int (nI (h + 1)) := gH.1
            have y3 : ρ2 118 13 = .int (nI (h + 1)) := gH.1
            simp only [w198_0, w198_1, w198_2, w198_3, w198_6, w198_9, w198_12, w198_13, w198_14, w198_15, w198_18, w198_21, w198_24, w198_26, w198_27, w198_28, w198_31, w198_34, w198_36, w198_37, w198_38, w198_41, w198_43, w198_46, w198_48, w198_49, w198_50, w198_53, w198_54, w198_57, w198_58, w198_60, w198_63, w198_64, w198_67, w198_68, w198_69, w198_70, w198_70i, w198_71, w198_74, w198_75, w198_76, w198_79, w198_80, w198_81, w198_84, ks_118, c_in, hin, hin2, nI_ne1, gH.1, d2, d4, gM.2.2.2.2.2.2.2.2.1, kt_127, in_nI (show h + 1 < kl 127 by rw [kl_127]; omega) (by rw [kl_127]; omega), nI_clamp (show h + 1 < 2 ^ 31 by omega), ↓reduceIte, Option.toList_some, Option.toList_none, List.cons_append, List.nil_append]
            show Wq none 198 59 [some (.ref (118 : Nat)), some (.int (nI t)), some (.int (nI e))] [] ρ1 _
            simp only [w198_0, w198_1, w198_2, w198_3, w198_6, w198_9, w198_12, w198_13, w198_14, w198_15, w198_18, w198_21, w198_24, w198_26, w198_27, w198_28, w198_31, w198_34, w198_36, w198_37, w198_38, w198_41, w198_43, w198_46, w198_48, w198_49, w198_50, w198_53, w198_54, w198_57, w198_58, w198_59, w198_60, w198_63, w198_64, w198_67, w198_68, w198_70, w198_70i, w198_71, w198_74, w198_75, w198_76, w198_79, w198_80, w198_81, w198_84, ks_118, y1, y2, kt_126, in_nI (show h + 1 < kl 126 by rw [kl_126]; omega) (by rw [kl_126]; omega), nI_clamp (show h + 1 < 2 ^ 31 by omega), ↓reduceIte, Option.toList_some, Option.toList_none, List.cons_append, List.nil_append]
            show Wq none 198 69 [some (.ref (118 : Nat)), some (.int (nI t)), some (.int (nI e))] [] ρ2 _
            simp only [w198_0, w198_1, w198_2, w198_3, w198_6, w198_9, w198_12, w198_13, w198_14, w198_15, w198_18, w198_21, w198_24, w198_26, w198_27, w198_28, w198_31, w198_34, w198_36, w198_37, w198_38, w198_41, w198_43, w198_46, w198_48, w198_49, w198_50, w198_53, w198_54, w198_57, w198_58, w198_59, w198_60, w198_63, w198_64, w198_67, w198_68, w198_69, w198_70, w198_70i, w198_71, w198_74, w198_75, w198_76, w198_80, w198_81, w198_84, ks_118, y3, nI_add, ↓reduceIte, Option.toList_some, Option.toList_none, List.cons_append, List.nil_append]
            show Wq none 198 79 [some (.ref (118 : Nat)), some (.int (nI t)), some (.int (nI e))] [] ρ3 _
            simp only [w198_0, w198_1, w198_2, w198_3, w198_6, w198_9, w198_12, w198_13, w198_14, w198_15, w198_18, w198_21, w198_24, w198_26, w198_27, w198_28, w198_31, w198_34, w198_36, w198_37, w198_38, w198_41, w198_43, w198_46, w198_48, w198_49, w198_50, w198_53, w198_54, w198_57, w198_58, w198_59, w198_60, w198_63, w198_64, w198_67, w198_68, w198_69, w198_70, w198_70i, w198_71, w198_74, w198_75, w198_76, w198_79, w198_80, w198_81, w198_84, ks_118, c_hereM hMA3.1 hMA3.2.1 hw gH2 (by omega) hhs' hht', ↓reduceIte, Option.toList_some, Option.toList_none, List.cons_append, List.nil_append, and_self]
    · have hin2 := in_no (x := y) (N := 5) (by omega) hy2
      refine pr_of (v := -1000000002) (σ1 := σ) (σ2 := σ) (fun Q => Cq_of (Er_of ?_)) (fun Q => Cq_of (Er_of ?_)) hI
      · show Wq none 111 0 [some (.ref (0 : Nat)), some (.int (nI t)), some (.int y)] [] σ _
        by_cases h0 : y < nI 0
        · simp only [w111_0, w111_1, w111_4, w111_5, w111_6, w111_9, w111_10, w111_13, w111_14, w111_16, w111_19, w111_21, w111_22, w111_23, w111_26, w111_29, w111_30, w111_33, w111_35, w111_36, w111_37, w111_40, w111_43, w111_45, w111_48, w111_50, w111_51, w111_52, w111_55, w111_56, w111_59, w111_60, w111_61, w111_64, w111_65, w111_68, w111_71, ks_0, a1, a2, h0, ↓reduceIte, Option.toList_some, Option.toList_none, List.cons_append, List.nil_append, and_self]
        · simp only [w111_0, w111_1, w111_4, w111_5, w111_6, w111_9, w111_10, w111_13, w111_14, w111_16, w111_19, w111_21, w111_22, w111_23, w111_26, w111_29, w111_30, w111_33, w111_35, w111_36, w111_37, w111_40, w111_43, w111_45, w111_48, w111_50, w111_51, w111_52, w111_55, w111_56, w111_59, w111_60, w111_61, w111_64, w111_65, w111_68, w111_71, ks_0, a1, a2, h0, nlt_le h0 hy, ↓reduceIte, Option.toList_some, Option.toList_none, List.cons_append, List.nil_append, and_self]
      · show Wq none 198 0 [some (.ref (118 : Nat)), some (.int (nI t)), some (.int y)] [] σ _
        simp only [w198_0, w198_1, w198_2, w198_3, w198_6, w198_9, w198_12, w198_13, w198_14, w198_15, w198_18, w198_21, w198_24, w198_26, w198_27, w198_28, w198_31, w198_34, w198_36, w198_37, w198_38, w198_41, w198_43, w198_46, w198_48, w198_49, w198_50, w198_53, w198_54, w198_57, w198_58, w198_59, w198_60, w198_63, w198_64, w198_67, w198_68, w198_69, w198_70, w198_70i, w198_71, w198_74, w198_75, w198_76, w198_79, w198_80, w198_81, w198_84, ks_118, c_in, hin, hin2, nI_ne1, ↓reduceIte, Option.toList_some, Option.toList_none, List.cons_append, List.nil_append, and_self]
  · have hin := in_no (x := x) (N := 2) (by omega) hx2
    refine pr_of (v := -1000000002) (σ1 := σ) (σ2 := σ) (fun Q => Cq_of (Er_of ?_)) (fun Q => Cq_of (Er_of ?_)) hI
    · show Wq none 111 0 [some (.ref (0 : Nat)), some (.int x), some (.int y)] [] σ _
      by_cases h0 : x < nI 0
      · simp only [w111_0, w111_1, w111_4, w111_5, w111_6, w111_9, w111_10, w111_13, w111_14, w111_16, w111_19, w111_21, w111_22, w111_23, w111_26, w111_29, w111_30, w111_33, w111_35, w111_36, w111_37, w111_40, w111_43, w111_45, w111_48, w111_50, w111_51, w111_52, w111_55, w111_56, w111_59, w111_60, w111_61, w111_64, w111_65, w111_68, w111_71, ks_0, h0, ↓reduceIte, Option.toList_some, Option.toList_none, List.cons_append, List.nil_append, and_self]
      · have h3 := hx.resolve_left h0
        simp only [w111_0, w111_1, w111_4, w111_5, w111_6, w111_9, w111_10, w111_13, w111_14, w111_16, w111_19, w111_21, w111_22, w111_23, w111_26, w111_29, w111_30, w111_33, w111_35, w111_36, w111_37, w111_40, w111_43, w111_45, w111_48, w111_50, w111_51, w111_52, w111_55, w111_56, w111_59, w111_60, w111_61, w111_64, w111_65, w111_68, w111_71, ks_0, h0, h3, ↓reduceIte, Option.toList_some, Option.toList_none, List.cons_append, List.nil_append, and_self]
    · show Wq none 198 0 [some (.ref (118 : Nat)), some (.int x), some (.int y)] [] σ _
      simp only [w198_0, w198_1, w198_2, w198_3, w198_6, w198_9, w198_12, w198_13, w198_14, w198_15, w198_18, w198_21, w198_24, w198_26, w198_27, w198_28, w198_31, w198_34, w198_36, w198_37, w198_38, w198_41, w198_43, w198_46, w198_48, w198_49, w198_50, w198_53, w198_54, w198_57, w198_58, w198_59, w198_60, w198_63, w198_64, w198_67, w198_68, w198_69, w198_70, w198_70i, w198_71, w198_74, w198_75, w198_76, w198_79, w198_80, w198_81, w198_84, ks_118, c_in, hin, ↓reduceIte, Option.toList_some, Option.toList_none, List.cons_append, List.nil_append, and_self]
-- listen
def gpG (c : Nat → Nat) (s t x : Nat) : Nat → Nat := fun sd => match sd with
  | 0 => 0
  | sd + 1 => max (gpG c s t x sd) (cnS c s t sd x)
theorem gpG_N (c : Nat → Nat) (s t : Nat) : ∀ sd, gpG c s t (c 0) sd = gpN c s t sd := by
  intro sd
  induction sd with
  | zero => rfl
  | succ sd ih => rw [gpG, gpN, ih]
theorem gpG_6 (c : Nat → Nat) (s t x : Nat) : gpG c s t x 6 = max (max (max (max (max (max 0 (cnS c s t 0 x)) (cnS c s t 1 x)) (cnS c s t 2 x)) (cnS c s t 3 x)) (cnS c s t 4 x)) (cnS c s t 5 x) := rfl
theorem cnS_S (c : Nat → Nat) (s t sd x : Nat) : cnS c s t sd (x + 1) = if s.testBit x = true ∧ c (5 + Tn c x t) = sd then cnS c s t sd x + 1 else cnS c s t sd x := rfl
theorem gpG_y {c : Nat → Nat} {s t x : Nat} (hb : s.testBit x = true) (h6 : c (5 + Tn c x t) < 6) : gpG c s t (x + 1) 6 = max (gpG c s t x 6) (cnS c s t (c (5 + Tn c x t)) x + 1) := by
  rw [gpG_6, gpG_6]
  simp only [cnS_S, hb, true_and]
  generalize c (5 + Tn c x t) = e at h6 ⊢
  rcases (by omega : e = 0 ∨ e = 1 ∨ e = 2 ∨ e = 3 ∨ e = 4 ∨ e = 5) with rfl | rfl | rfl | rfl | rfl | rfl
  all_goals
    simp (decide := true) only [if_true, if_false]
    omega
theorem gpG_n {c : Nat → Nat} {s t x : Nat} (hb : ¬ s.testBit x = true) : gpG c s t (x + 1) 6 = gpG c s t x 6 := by
  rw [gpG_6, gpG_6]
  simp only [cnS_S, hb, false_and, if_false, Bool.false_eq_true]
end HE
