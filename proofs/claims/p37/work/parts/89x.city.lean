section PCX
variable {σ : dm_G} {c n : Nat → Nat} {k : Nat} {p : Nat → Nat → Nat} {q : Nat} {im : Nat → Nat → Nat} {h : Nat} {hs ht : Nat → Nat} {m : Nat} {bg bx : Nat → Nat} {L : Nat} {tx : Nat → Nat} {f : Int32} {s : Nat}
theorem q_city (hK : KA c n k p q im h hs ht m bg bx L tx f s σ) (h0 : (txT L tx).1.2.1 = 0) : ∃ τ, Er 78 [(.ref (0 : Nat))] σ (some (.int (nI ((txT L tx).2 0)))) τ ∧ KA (txT L tx).2 (bnN (txT L tx).2) 0 p 0 im 0 hs ht 0 bg bx 0 tx (-1) s τ ∧ FZ σ τ := by
  obtain ⟨hWA, hCA⟩ := id hK; obtain ⟨hw, hwn, ⟨hk16, hkp⟩, ⟨hq4, hqi⟩, ⟨hh9, hhs, hht⟩, ⟨hm15, hmb⟩, ⟨hL240, htx⟩, hs31⟩ := id hWA; obtain ⟨⟨P, D, hPD, hB, hC, hD⟩, hN, hPa, hIm, hHe, hBk, hTx, hF, hS, hSc⟩ := id hCA
  obtain ⟨b0, b3, b4, b5, b6, b7, b8, b9, b10, b11, b12⟩ := id hB
  have hDD : D = 4 ∨ D = 14 := by omega
  have hD121 : D < 121 := by omega
  have hP121 : P < 121 := by omega
  have kD : CK D := by
    rcases hDD with h | h
    · rw [h]; exact CK_4
    · rw [h]; exact CK_14
  obtain ⟨τ, hE, ρ, pl, hτ, hpl, hfr, hCR, hok⟩ := c_read (L := L) (tx := tx) hDD kD hD b5 hL240 htx hTx.2
  have fb : ∀ a b, ¬ (D ≤ a ∧ a ≤ D + 9) → ¬ (a = 2 ∧ ¬ b = 5) → τ a b = σ a b := fun a b h1 h2 => by
    rw [hτ, rS_out (by omega), hfr a b h1 (by omega), scL_o (by omega), swB_o (by omega), up_get, if_neg (by omega), up_get, if_neg (by omega)]
  have e24 : τ 2 4 = .int (fiO (txT L tx).1.2.1 (txT L tx).1.2.2) := by rw [hτ]; rfl
  have hCRt : CR τ D := by rw [hτ, CR_rS (by omega)]; exact hCR
  have hwn' := hwn
  have hwd : (txT L tx).1.2.1 = 0 → DW (txT L tx).2 := prT_W 240 (skB L tx 0) (fun _ => 0) DW_0
  have hw3 : (txT L tx).1.2.1 ≤ 3 := prT_3 hL240 240 (skB L tx 0) (fun _ => 0)
  generalize hw0 : (txT L tx).1.2.1 = w at hE e24 hok hwd hw3 h0
  generalize hb0' : (txT L tx).1.2.2 = wb at e24
  have a03 : dm_up τ 0 1 (.int (nI 0)) 0 3 = (.ref (2 : Nat)) := (fb 0 3 (by omega) (by omega)).trans b3
  have a24 : dm_up τ 0 1 (.int (nI 0)) 2 4 = .int (fiO w wb) := e24
  have run : ∀ Q, Wq none 78 0 [some (.ref (0 : Nat)), none] [] σ Q = Wq none 78 32 [some (.ref (0 : Nat)), some (.int (nI w))] [] (dm_up (dm_up τ 0 1 (.int (nI 0))) 0 2 (.int (fiO w wb))) Q := by
    intro Q
    simp only [w78_0, w78_1, w78_4, w78_5, w78_8, w78_9, w78_12, w78_15, w78_16, w78_17, w78_18, w78_21, w78_22, w78_23, w78_26, w78_29, w78_33, w78_36, w78_38, w78_39, w78_40, w78_41, w78_42, w78_43, w78_46, w78_47, w78_50, w78_53, w78_56, w78_57, w78_60, w78_61, w78_64, w78_67, w78_68, w78_71, w78_74, w78_75, w78_78, w78_81, w78_82, w78_85, w78_88, w78_89, w78_92, w78_95, w78_96, w78_99, w78_102, ks_0, ks_2, b0, b3, hTx.1, fun Q => Cq_of (Q := Q) hE, a03, a24, ↓reduceIte, Option.toList_some, Option.toList_none, List.cons_append, List.nil_append]
  generalize hτ1 : dm_up (dm_up τ 0 1 (.int (nI 0))) 0 2 (.int (fiO w wb)) = τ1 at run
  have f1 : ∀ a b, ¬ (D ≤ a ∧ a ≤ D + 9) → ¬ (a = 2 ∧ ¬ b = 5) → ¬ (a = 0 ∧ (b = 1 ∨ b = 2)) → τ1 a b = σ a b := fun a b h1 h2 h3 => by
    rw [← hτ1, up_get, if_neg (by omega), up_get, if_neg (by omega)]
    exact fb a b h1 h2
  have f1D : ∀ a b, D ≤ a → τ1 a b = τ a b := fun a b h => by
    rw [← hτ1, up_get, if_neg (by omega), up_get, if_neg (by omega)]
  have f101 : τ1 0 1 = .int (nI 0) := by rw [← hτ1]; rfl
  have f102 : τ1 0 2 = .int (fiO w wb) := by rw [← hτ1]; rfl
  subst h0
  obtain ⟨hpe, hDC⟩ := hok rfl
  have hDW := hwd rfl
  have f102' : τ1 0 2 = .int (-1) := f102
  have g4 : τ1 0 4 = .ref P := (f1 _ _ (by omega) (by omega) (by omega)).trans b4
  have g5 : τ1 2 5 = .ref D := (f1 _ _ (by omega) (by omega) (by omega)).trans b5
  have g3 : τ1 0 3 = (.ref (2 : Nat)) := (f1 _ _ (by omega) (by omega) (by omega)).trans b3
  have run2 : ∀ Q, Wq none 78 32 [some (.ref (0 : Nat)), some (.int (nI 0))] [] τ1 Q = Wq none 78 56 [some (.ref (0 : Nat)), some (.int (nI 0))] [] (dm_up (dm_up τ1 2 5 (.ref P)) 0 4 (.ref D)) Q := by
    intro Q
    simp only [w78_0, w78_1, w78_4, w78_5, w78_8, w78_9, w78_12, w78_15, w78_16, w78_17, w78_18, w78_21, w78_22, w78_23, w78_26, w78_29, w78_32, w78_33, w78_36, w78_38, w78_39, w78_40, w78_41, w78_42, w78_43, w78_46, w78_47, w78_50, w78_53, w78_57, w78_60, w78_61, w78_64, w78_67, w78_68, w78_71, w78_74, w78_75, w78_78, w78_81, w78_82, w78_85, w78_88, w78_89, w78_92, w78_95, w78_96, w78_99, w78_102, ks_0, ks_2, g3, g4, c_give g5 hD121 hP121, hD121, hP121, ↓reduceIte, Option.toList_some, Option.toList_none, List.cons_append, List.nil_append]
  generalize hτ2 : dm_up (dm_up τ1 2 5 (.ref P)) 0 4 (.ref D) = τ2 at run2
  have f2 : ∀ a b, ¬ (a = 0 ∧ b = 4) ∧ ¬ (a = 2 ∧ b = 5) → τ2 a b = τ1 a b := fun a b h => by
    rw [← hτ2, up_get, if_neg (by omega), up_get, if_neg (by omega)]
  have k4 : τ2 0 4 = .ref D := by rw [← hτ2]; rfl
  have k5 : τ2 2 5 = .ref P := by rw [← hτ2]; rfl
  have f2s : ∀ a b, ¬ (D ≤ a ∧ a ≤ D + 9) → ¬ a = 2 → ¬ (a = 0 ∧ (b = 1 ∨ b = 2 ∨ b = 4)) → τ2 a b = σ a b := fun a b h1 h2 h3 => (f2 a b (by omega)).trans (f1 a b h1 (by omega) (by omega))
  have hCCt : CC τ D (txT L tx).2 := by
    rw [hτ]
    exact (DC_rS (by omega) hDC).1
  have hCC2 : CC τ2 D (txT L tx).2 := CC_of (fun i hi => funext fun b => (f2 _ b (by omega)).trans (f1D _ b (by omega))) hCCt
  have hSR2 : SR τ2 24 := SR_of (fun b => f2s _ b (by omega) (by omega) (by omega)) hN.2.1
  have cst := fun Q => c_startIn (Q := Q) SK_24 kD hSR2 hCC2.2.1 (show D + 9 < 24 by omega)
  have hCN := CN_sn SK_24 hSR2 hCC2 hDW.1.2.1 hDD
  generalize hS1 : snF 24 D τ2 = S1 at cst hCN
  have f3 : ∀ a b, ¬ (24 ≤ a ∧ a ≤ 27) → S1 a b = τ2 a b := fun a b h => by
    rw [← hS1]
    exact snF_o (by omega) (by omega)
  obtain ⟨u, hu, hCP, hPS, _⟩ := id hPa
  have hCP1 : CP S1 u k := CP_of (fun a b z => (f3 a b (by omega)).trans (f2s a b (by omega) (by omega) (by omega))) hCP
  have cpc := fun Q => c_pastClear (Q := Q) hCP1
  have cic := fun Q => c_imClear (σ := dm_up S1 28 2 (.int (nI 0))) (Q := Q)
  have chc := fun Q => c_heardClear (σ := dm_up (dm_up S1 28 2 (.int (nI 0))) 94 2 (.int (nI 0))) (Q := Q)
  have cbc := fun Q => c_bkClear (σ := dm_up (dm_up (dm_up (dm_up S1 28 2 (.int (nI 0))) 94 2 (.int (nI 0))) 105 0 (.int (-1))) 105 1 (.int (nI 0))) (Q := Q)
  have z0 : ∀ b, S1 0 b = τ2 0 b := fun b => f3 0 b (by omega)
  have z1 : ∀ b, dm_up S1 28 2 (.int (nI 0)) 0 b = τ2 0 b := fun b => by rw [up_get, if_neg (by omega)]; exact z0 b
  have z2 : ∀ b, dm_up (dm_up S1 28 2 (.int (nI 0))) 94 2 (.int (nI 0)) 0 b = τ2 0 b := fun b => by rw [up_get, if_neg (by omega)]; exact z1 b
  have z3 : ∀ b, dm_up (dm_up (dm_up (dm_up S1 28 2 (.int (nI 0))) 94 2 (.int (nI 0))) 105 0 (.int (-1))) 105 1 (.int (nI 0)) 0 b = τ2 0 b := fun b => by rw [up_get, if_neg (by omega), up_get, if_neg (by omega)]; exact z2 b
  generalize hS5 : dm_up (dm_up (dm_up (dm_up (dm_up S1 28 2 (.int (nI 0))) 94 2 (.int (nI 0))) 105 0 (.int (-1))) 105 1 (.int (nI 0))) 107 0 (.int (nI 0)) = S5 at cbc
  have f5 : ∀ a b, ¬ (a = 28 ∧ b = 2) → ¬ (a = 94 ∧ b = 2) → ¬ (a = 105 ∧ b < 2) → ¬ (a = 107 ∧ b = 0) → S5 a b = S1 a b := fun a b h1 h2 h3 h4 => by
    rw [← hS5, up_get, if_neg (by omega), up_get, if_neg (by omega), up_get, if_neg (by omega), up_get, if_neg (by omega), up_get, if_neg (by omega)]
  have fs : ∀ a b, ¬ (a = 28 ∧ b = 2) → ¬ (a = 94 ∧ b = 2) → ¬ (a = 105 ∧ b < 2) → ¬ (a = 107 ∧ b = 0) → ¬ (24 ≤ a ∧ a ≤ 27) → ¬ (D ≤ a ∧ a ≤ D + 9) → ¬ a = 2 → ¬ (a = 0 ∧ (b = 1 ∨ b = 2 ∨ b = 4)) → S5 a b = σ a b := fun a b h1 h2 h3 h4 h5 h6 h7 h8 => ((f5 a b h1 h2 h3 h4).trans (f3 a b h5)).trans (f2s a b h6 h7 h8)
  have z4 : ∀ b, S5 0 b = τ2 0 b := fun b => (f5 0 b (by omega) (by omega) (by omega) (by omega)).trans (z0 b)
  have fo : ∀ b, ¬ (b = 1 ∨ b = 2 ∨ b = 4) → τ2 0 b = σ 0 b := fun b h => f2s 0 b (by omega) (by omega) (by omega)
  have k6 := (fo 5 (by omega)).trans b6
  have k7 := (fo 6 (by omega)).trans b7
  have k8 := (fo 7 (by omega)).trans b8
  have k9 := (fo 8 (by omega)).trans b9
  have k10 := (fo 9 (by omega)).trans b10
  have hCC5 : CC S5 D (txT L tx).2 := CC_of (fun i hi => funext fun b => (f5 _ b (by omega) (by omega) (by omega) (by omega)).trans (f3 _ b (by omega))) hCC2
  have q0 : ∀ i, ¬ (0 : Nat).testBit i = true := fun i => by simp
  have hWA' : WA (txT L tx).2 (bnN (txT L tx).2) 0 p 0 im 0 hs ht 0 bg bx 0 tx s := ⟨hDW.1, WN_bn hDW.1, ⟨by omega, fun i hi => absurd hi (Nat.not_lt_zero _)⟩, ⟨by omega, fun i hi hb => absurd hb (q0 i)⟩, ⟨by omega, hhs, hht⟩, ⟨by omega, fun i hi => absurd hi (Nat.not_lt_zero _)⟩, ⟨by omega, fun i hi => absurd hi (Nat.not_lt_zero _)⟩, hs31⟩
  have hCA' : CA (txT L tx).2 (bnN (txT L tx).2) 0 p 0 im 0 hs ht 0 bg bx 0 tx (-1) s S5 := by
    obtain ⟨i1, i2, i3, i4⟩ := hIm.1
    obtain ⟨o0, o1, o2, o3⟩ := hCP
    refine ⟨⟨D, P, by omega, ⟨?_, ?_, (z4 4).trans k4, (f5 2 5 (by omega) (by omega) (by omega) (by omega)).trans ((f3 2 5 (by omega)).trans k5), (z4 5).trans k6, (z4 6).trans k7, (z4 7).trans k8, (z4 8).trans k9, (z4 9).trans k10, ?_, ?_⟩, hCC5, ?_⟩, ?_, ⟨u, hu, ⟨?_, ?_, ?_, fun i hi => ?_⟩, fun i hi => ?_, fun i hi => absurd hi (Nat.not_lt_zero _)⟩, ⟨⟨?_, ?_, ?_, fun i hi => ?_⟩, fun i hi => ?_, fun i hi hb => absurd hb (q0 i)⟩, ⟨?_, fun _ => ⟨?_, ?_⟩, fun w => absurd w (by omega)⟩, ⟨?_, ?_, ?_, fun i hi => absurd hi (Nat.not_lt_zero _)⟩, ⟨?_, fun i hi => absurd hi (Nat.not_lt_zero _)⟩, ?_, ?_, ?_⟩
    · exact ((z4 0).trans (fo 0 (by omega))).trans b0
    · exact ((z4 3).trans (fo 3 (by omega))).trans b3
    · exact ((z4 10).trans (fo 10 (by omega))).trans b11
    · exact ((z4 11).trans (fo 11 (by omega))).trans b12
    · exact CR_o (fun j hj => fs P j (by omega) (by omega) (by omega) (by omega) (by omega) (by omega) (by omega) (by omega)) hC.2.1
    · exact CN_of (fun i b hi => f5 _ b (by omega) (by omega) (by omega) (by omega)) hCN
    · exact (fs _ _ (by omega) (by omega) (by omega) (by omega) (by omega) (by omega) (by omega) (by omega)).trans o0
    · exact (fs _ _ (by omega) (by omega) (by omega) (by omega) (by omega) (by omega) (by omega) (by omega)).trans o1
    · rw [← hS5]; rfl
    · exact (fs _ _ (by omega) (by omega) (by omega) (by omega) (by omega) (by omega) (by omega) (by omega)).trans (o3 i hi)
    · exact SR_of (fun b => fs _ b (by omega) (by omega) (by omega) (by omega) (by omega) (by omega) (by omega) (by omega)) (hPS i hi)
    · exact (fs _ _ (by omega) (by omega) (by omega) (by omega) (by omega) (by omega) (by omega) (by omega)).trans i1
    · exact (fs _ _ (by omega) (by omega) (by omega) (by omega) (by omega) (by omega) (by omega) (by omega)).trans i2
    · rw [← hS5]; rfl
    · exact (fs _ _ (by omega) (by omega) (by omega) (by omega) (by omega) (by omega) (by omega) (by omega)).trans (i4 i hi)
    · exact SR_of (fun b => fs _ b (by omega) (by omega) (by omega) (by omega) (by omega) (by omega) (by omega) (by omega)) (hIm.2.1 i hi)
    · exact (fs _ _ (by omega) (by omega) (by omega) (by omega) (by omega) (by omega) (by omega) (by omega)).trans hHe.1
    · rw [← hS5]; rfl
    · rw [← hS5]; rfl
    · rw [← hS5]; rfl
    · exact (fs _ _ (by omega) (by omega) (by omega) (by omega) (by omega) (by omega) (by omega) (by omega)).trans hBk.2.1
    · exact (fs _ _ (by omega) (by omega) (by omega) (by omega) (by omega) (by omega) (by omega) (by omega)).trans hBk.2.2.1
    · exact ((z4 1).trans (f2 0 1 (by omega))).trans f101
    · exact ((z4 2).trans (f2 0 2 (by omega))).trans f102'
    · exact ((z4 12).trans (fo 12 (by omega))).trans hS
    · exact cSc_of (fun a b z => fs a b (by omega) (by omega) (by omega) (by omega) (by omega) (by omega) (by omega) (by omega)) hSc
  refine ⟨S5, Er_of ?_, ⟨hWA', hCA'⟩, fun a b z => fs a b (by omega) (by omega) (by omega) (by omega) (by omega) (by omega) (by omega) (by omega)⟩
  show Wq none 78 0 [some (.ref (0 : Nat)), none] [] σ _
  rw [run, run2]
  simp only [w78_0, w78_1, w78_4, w78_5, w78_8, w78_9, w78_12, w78_15, w78_16, w78_17, w78_18, w78_21, w78_22, w78_23, w78_26, w78_29, w78_33, w78_36, w78_38, w78_39, w78_40, w78_41, w78_42, w78_43, w78_46, w78_47, w78_50, w78_53, w78_56, w78_57, w78_60, w78_61, w78_64, w78_67, w78_68, w78_71, w78_74, w78_75, w78_78, w78_81, w78_82, w78_85, w78_88, w78_89, w78_92, w78_95, w78_96, w78_99, w78_102, ks_0, ks_24, ks_28, ks_94, ks_105, ks_107, kD.1, k4, k6, k7, k8, k9, k10, z0, z1, z2, z3, z4, cst, cpc, cic, chc, cbc, hCC5.2.2.1.1, ↓reduceIte, Option.toList_some, Option.toList_none, List.cons_append, List.nil_append, and_self]
end PCX
