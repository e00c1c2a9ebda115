/-! city answers alike on both sides -/
section PC
variable {σ : dm_G}
theorem prT_W {L : Nat} {tx : Nat → Nat} : ∀ (f p : Nat) (rd : Nat → Nat), DW rd → (prT L tx f p rd).1.2.1 = 0 → DW (prT L tx f p rd).2 := by
  intro f
  induction f with
  | zero => intro p rd h _; exact h
  | succ f ih =>
    intro p rd h
    rw [prS]
    by_cases z : p < L
    · rw [if_pos z]
      by_cases y : (clT L tx rd p).1.2.1 = 0
      · rw [if_pos y]
        exact ih _ _ (clT_W h y)
      · rw [if_neg y]
        intro w
        exact absurd w y
    · rw [if_neg z]
      intro _
      exact h
theorem prT_3 {L : Nat} {tx : Nat → Nat} (hL : L ≤ 240) : ∀ (f p : Nat) (rd : Nat → Nat), (prT L tx f p rd).1.2.1 ≤ 3 := by
  intro f
  induction f with
  | zero => intro p rd; show (0 : Nat) ≤ 3; omega
  | succ f ih =>
    intro p rd
    rw [prS]
    split
    · split
      · exact ih _ _
      · exact clT_3 hL
    · show (0 : Nat) ≤ 3; omega
theorem WN_bn {c : Nat → Nat} (hw : WC c) : WN c (bnN c) := by
  obtain ⟨w0, w2, w3, w4, w5, w6, w7, w8, w9⟩ := hw
  have p0 : 0 < 2 ^ c 0 := Nat.two_pow_pos _
  have p3 : 0 < 2 ^ c 3 := Nat.two_pow_pos _
  refine ⟨fun g hg => ?_, p3, p0, Nat.zero_le _, Nat.zero_le _⟩
  have e1 : bnN c g = c (37 + g) := if_pos (by omega)
  have e2 : bnN c (6 + g) = c (49 + g) := by
    unfold bnN
    rw [if_neg (by omega), if_pos (by omega), show 6 + g - 6 = g by omega]
  have e3 : bnN c (12 + g) = 0 := by
    unfold bnN
    rw [if_neg (by omega), if_neg (by omega)]
  rw [e1, e2, e3]
  exact ⟨(w7 g hg).1, (w7 g hg).2.2, p3⟩
theorem snF_o {S P a b : Nat} (h : ¬ (a = S + 1 ∨ a = S + 2 ∨ a = S + 3)) (h2 : ¬ (a = S ∧ 3 ≤ b ∧ b ≤ 6)) : snF S P σ a b = σ a b := by
  unfold snF
  rw [if_neg (fun z => h z.1), if_neg h2]
theorem CN_sn {D : Nat} {c : Nat → Nat} (hS : SK 24) (rS : SR σ 24) (hC : CC σ D c) (h2 : c 2 ≤ 6) (hD : D = 4 ∨ D = 14) : CN (snF 24 D σ) 24 (c 2) (bnN c) := by
  have f4 := hC.2.2.2.2.2.2.1
  have z3 : ∀ b, 3 ≤ b → b ≤ 6 → snF 24 D σ 24 b = .int (nI 0) := fun b h1 h2 => by
    unfold snF
    rw [if_neg (by omega), if_pos ⟨rfl, h1, h2⟩]
  refine ⟨hS, ⟨(snF_o (by omega) (by omega)).trans rS.1, (snF_o (by omega) (by omega)).trans rS.2.1, (snF_o (by omega) (by omega)).trans rS.2.2⟩, ⟨z3 3 (by omega) (by omega), z3 4 (by omega) (by omega), z3 5 (by omega) (by omega), z3 6 (by omega) (by omega)⟩, fun g hg => ?_⟩
  have g1 : gi (snF 24 D σ) (24 + 1) g = gi σ (D + 4) g := by
    show dm_i (snF 24 D σ (24 + 1) g) = _
    unfold snF snV
    rw [if_pos ⟨Or.inl rfl, by omega⟩, if_pos rfl]
    rfl
  have g2 : gi (snF 24 D σ) (24 + 2) g = gi σ (D + 6) g := by
    show dm_i (snF 24 D σ (24 + 2) g) = _
    unfold snF snV
    rw [if_pos ⟨Or.inr (Or.inl rfl), by omega⟩, if_neg (by omega), if_pos rfl]
    rfl
  have g3 : gi (snF 24 D σ) (24 + 3) g = nI 0 := by
    show dm_i (snF 24 D σ (24 + 3) g) = _
    unfold snF snV
    rw [if_pos ⟨Or.inr (Or.inr rfl), by omega⟩, if_neg (by omega), if_neg (by omega)]
    rfl
  have e1 : bnN c g = c (37 + g) := if_pos (by omega)
  have e2 : bnN c (6 + g) = c (49 + g) := by
    unfold bnN
    rw [if_neg (by omega), if_pos (by omega), show 6 + g - 6 = g by omega]
  have e3 : bnN c (12 + g) = 0 := by
    unfold bnN
    rw [if_neg (by omega), if_neg (by omega)]
  rw [g1, g2, g3, e1, e2, e3]
  exact ⟨(f4 g hg).1, (f4 g hg).2.2, rfl⟩
theorem pr_city (hI : Inv σ) : Pr Inv 78 144 [] σ := by
  obtain ⟨c, n, k, p, q, im, h, hs, ht, m, bg, bx, L, tx, f, s, hWA, hCA, hMA⟩ := id hI; obtain ⟨hw, hwn, ⟨hk16, hkp⟩, ⟨hq4, hqi⟩, ⟨hh9, hhs, hht⟩, ⟨hm15, hmb⟩, ⟨hL240, htx⟩, hs31⟩ := id hWA; obtain ⟨⟨P, D, hPD, hB, hC, hD⟩, hN, hPa, hIm, hHe, hBk, hTx, hF, hS, hSc⟩ := id hCA; obtain ⟨hM, hc, hn, hmP, hmI, hmH, hmB, hmT, hmF, hmS⟩ := id hMA
  obtain ⟨b0, b3, b4, b5, b6, b7, b8, b9, b10, b11, b12⟩ := id hB
  have hDD : D = 4 ∨ D = 14 := by omega
  have hD137 : D < 137 := by omega
  have hP137 : P < 137 := by omega
  have kD : CK D := by
    rcases hDD with h | h
    · rw [h]; exact CK_4
    · rw [h]; exact CK_14
  obtain ⟨τ, hE, ρ, pl, hτ, hpl, hfr, hCR, hok⟩ := c_read (L := L) (tx := tx) hDD kD hD b5 hL240 htx hTx.2
  have fb : ∀ a b, ¬ (D ≤ a ∧ a ≤ D + 9) → ¬ (a = 2 ∧ ¬ b = 5) → τ a b = σ a b := fun a b h1 h2 => by
    rw [hτ, rS_out (by omega), hfr a b h1 (by omega), scL_o (by omega), swB_o (by omega), up_get, if_neg (by omega), up_get, if_neg (by omega)]
  have e24 : τ 2 4 = .int (fiO (txT L tx).1.2.1 (txT L tx).1.2.2) := by rw [hτ]; rfl
  have hCRt : CR τ D := by rw [hτ, CR_rS (by omega)]; exact hCR
  have hwn' := hwn
  have hwd : (txT L tx).1.2.1 = 0 → DW (txT L tx).2 := prT_W 240 (skB L tx 0) (fun _ => 0) DW_0
  have hw3 : (txT L tx).1.2.1 ≤ 3 := prT_3 hL240 240 (skB L tx 0) (fun _ => 0)
  have hMC := fun (σ' : dm_G) (h1 : MR σ') (h2 : mTX L tx σ') => m_city h1 h2
  generalize hw0 : (txT L tx).1.2.1 = w at hE e24 hok hwd hw3 hMC
  generalize hb0' : (txT L tx).1.2.2 = wb at e24 hMC
  have a03 : dm_up τ 0 1 (.int (nI 0)) 0 3 = (.ref (2 : Nat)) := (fb 0 3 (by omega) (by omega)).trans b3
  have a24 : dm_up τ 0 1 (.int (nI 0)) 2 4 = .int (fiO w wb) := e24
  have run : ∀ Q, Wq none 78 0 [some (.ref (0 : Nat)), none] [] σ Q = Wq none 78 32 [some (.ref (0 : Nat)), some (.int (nI w))] [] (dm_up (dm_up τ 0 1 (.int (nI 0))) 0 2 (.int (fiO w wb))) Q := by
    intro Q
    simp only [w78_0, w78_1, w78_4, w78_5, w78_8, w78_9, w78_12, w78_15, w78_16, w78_17, w78_18, w78_21, w78_22, w78_23, w78_26, w78_29, w78_33, w78_36, w78_38, w78_39, w78_40, w78_41, w78_42, w78_43, w78_46, w78_47, w78_50, w78_53, w78_56, w78_57, w78_60, w78_61, w78_64, w78_67, w78_68, w78_71, w78_74, w78_75, w78_78, w78_81, w78_82, w78_85, w78_88, w78_89, w78_92, w78_95, w78_96, w78_99, w78_102, ks_0, ks_2, b0, b3, hTx.1, fun Q => Cq_of (Q := Q) hE, a03, a24, ↓reduceIte, Option.toList_some, Option.toList_none, List.cons_append, List.nil_append]
  generalize hτ1 : dm_up (dm_up τ 0 1 (.int (nI 0))) 0 2 (.int (fiO w wb)) = τ1 at run
  have f1 : ∀ a b, ¬ (D ≤ a ∧ a ≤ D + 9) → ¬ (a = 2 ∧ ¬ b = 5) → ¬ (a = 0 ∧ (b = 1 ∨ b = 2)) → τ1 a b = σ a b := fun a b h1 h2 h3 => by
    rw [← hτ1, up_get, if_neg (by omega), up_get, if_neg (by omega)]
    exact fb a b h1 h2
  have f1D : ∀ a b, D ≤ a → τ1 a b = τ a b := fun a b h => by
    rw [← hτ1, up_get, if_neg (by omega), up_get, if_neg (by omega)]
  have f101 : τ1 0 1 = .int (nI 0) := by rw [← hτ1]; rfl
  have f102 : τ1 0 2 = .int (fiO w wb) := by rw [← hτ1]; rfl
  have hMA1 : MA c n k p q im h hs ht m bg bx L tx f s τ1 := MA_lo hMA (fun a b z => f1 a b (by omega) (by omega) (by omega))
  by_cases y : w = 0
  · subst y
    obtain ⟨hpe, hDC⟩ := hok rfl
    have hDW := hwd rfl
    have f102' : τ1 0 2 = .int (-1) := f102
    have g4 : τ1 0 4 = .ref P := (f1 _ _ (by omega) (by omega) (by omega)).trans b4
    have g5 : τ1 2 5 = .ref D := (f1 _ _ (by omega) (by omega) (by omega)).trans b5
    have g3 : τ1 0 3 = (.ref (2 : Nat)) := (f1 _ _ (by omega) (by omega) (by omega)).trans b3
    have run2 : ∀ Q, Wq none 78 32 [some (.ref (0 : Nat)), some (.int (nI 0))] [] τ1 Q = Wq none 78 56 [some (.ref (0 : Nat)), some (.int (nI 0))] [] (dm_up (dm_up τ1 2 5 (.ref P)) 0 4 (.ref D)) Q := by
      intro Q
      simp only [w78_0, w78_1, w78_4, w78_5, w78_8, w78_9, w78_12, w78_15, w78_16, w78_17, w78_18, w78_21, w78_22, w78_23, w78_26, w78_29, w78_32, w78_33, w78_36, w78_38, w78_39, w78_40, w78_41, w78_42, w78_43, w78_46, w78_47, w78_50, w78_53, w78_57, w78_60, w78_61, w78_64, w78_67, w78_68, w78_71, w78_74, w78_75, w78_78, w78_81, w78_82, w78_85, w78_88, w78_89, w78_92, w78_95, w78_96, w78_99, w78_102, ks_0, ks_2, g3, g4, c_give g5 hD137 hP137, hD137, hP137, ↓reduceIte, Option.toList_some, Option.toList_none, List.cons_append, List.nil_append]
    generalize hτ2 : dm_up (dm_up τ1 2 5 (.ref P)) 0 4 (.ref D) = τ2 at run2
    have f2 : ∀ a b, ¬ (a = 0 ∧ b = 4) ∧ ¬ (a = 2 ∧ b = 5) → τ2 a b = τ1 a b := fun a b h => by
      rw [← hτ2, up_get, if_neg (by omega), up_get, if_neg (by omega)]
    have k4 : τ2 0 4 = .ref D := by rw [← hτ2]; rfl
    have k5 : τ2 2 5 = .ref P := by rw [← hτ2]; rfl
    have f2s : ∀ a b, ¬ (D ≤ a ∧ a ≤ D + 9) → ¬ a = 2 → ¬ (a = 0 ∧ (b = 1 ∨ b = 2 ∨ b = 4)) → τ2 a b = σ a b := fun a b h1 h2 h3 => (f2 a b (by omega)).trans (f1 a b h1 (by omega) (by omega))
    have hCCt : CC τ D (txT L tx).2 := by
      rw [hτ]
      exact (DC_rS (by omega) hDC).1
    have hCC2 : CC τ2 D (txT L tx).2 := CC_of (fun i hi => funext fun b => (f2 _ b (by omega)).trans (f1D _ b (by omega))) hCCt
    have hSR2 : SR τ2 24 := SR_of (fun b => f2s _ b (by omega) (by omega) (by omega)) hN.2.1
    have cst := fun Q => c_startIn (Q := Q) SK_24 kD hSR2 hCC2.2.1 (show D + 9 < 24 by omega)
    have hCN := CN_sn SK_24 hSR2 hCC2 hDW.1.2.1 hDD
    generalize hS1 : snF 24 D τ2 = S1 at cst hCN
    have f3 : ∀ a b, ¬ (24 ≤ a ∧ a ≤ 27) → S1 a b = τ2 a b := fun a b h => by
      rw [← hS1]
      exact snF_o (by omega) (by omega)
    obtain ⟨u, hu, hCP, hPS, _⟩ := id hPa
    have hCP1 : CP S1 u k := CP_of (fun a b z => (f3 a b (by omega)).trans (f2s a b (by omega) (by omega) (by omega))) hCP
    have cpc := fun Q => c_pastClear (Q := Q) hCP1
    have cic := fun Q => c_imClear (σ := dm_up S1 28 2 (.int (nI 0))) (Q := Q)
    have chc := fun Q => c_heardClear (σ := dm_up (dm_up S1 28 2 (.int (nI 0))) 94 2 (.int (nI 0))) (Q := Q)
    have cbc := fun Q => c_bkClear (σ := dm_up (dm_up (dm_up (dm_up S1 28 2 (.int (nI 0))) 94 2 (.int (nI 0))) 105 0 (.int (-1))) 105 1 (.int (nI 0))) (Q := Q)
    have z0 : ∀ b, S1 0 b = τ2 0 b := fun b => f3 0 b (by omega)
    have z1 : ∀ b, dm_up S1 28 2 (.int (nI 0)) 0 b = τ2 0 b := fun b => by rw [up_get, if_neg (by omega)]; exact z0 b
    have z2 : ∀ b, dm_up (dm_up S1 28 2 (.int (nI 0))) 94 2 (.int (nI 0)) 0 b = τ2 0 b := fun b => by rw [up_get, if_neg (by omega)]; exact z1 b
    have z3 : ∀ b, dm_up (dm_up (dm_up (dm_up S1 28 2 (.int (nI 0))) 94 2 (.int (nI 0))) 105 0 (.int (-1))) 105 1 (.int (nI 0)) 0 b = τ2 0 b := fun b => by rw [up_get, if_neg (by omega), up_get, if_neg (by omega)]; exact z2 b
    generalize hS5 : dm_up (dm_up (dm_up (dm_up (dm_up S1 28 2 (.int (nI 0))) 94 2 (.int (nI 0))) 105 0 (.int (-1))) 105 1 (.int (nI 0))) 107 0 (.int (nI 0)) = S5 at cbc
    have f5 : ∀ a b, ¬ (a = 28 ∧ b = 2) → ¬ (a = 94 ∧ b = 2) → ¬ (a = 105 ∧ b < 2) → ¬ (a = 107 ∧ b = 0) → S5 a b = S1 a b := fun a b h1 h2 h3 h4 => by
      rw [← hS5, up_get, if_neg (by omega), up_get, if_neg (by omega), up_get, if_neg (by omega), up_get, if_neg (by omega), up_get, if_neg (by omega)]
    have fs : ∀ a b, ¬ (a = 28 ∧ b = 2) → ¬ (a = 94 ∧ b = 2) → ¬ (a = 105 ∧ b < 2) → ¬ (a = 107 ∧ b = 0) → ¬ (24 ≤ a ∧ a ≤ 27) → ¬ (D ≤ a ∧ a ≤ D + 9) → ¬ a = 2 → ¬ (a = 0 ∧ (b = 1 ∨ b = 2 ∨ b = 4)) → S5 a b = σ a b := fun a b h1 h2 h3 h4 h5 h6 h7 h8 => ((f5 a b h1 h2 h3 h4).trans (f3 a b h5)).trans (f2s a b h6 h7 h8)
    have z4 : ∀ b, S5 0 b = τ2 0 b := fun b => (f5 0 b (by omega) (by omega) (by omega) (by omega)).trans (z0 b)
    have fo : ∀ b, ¬ (b = 1 ∨ b = 2 ∨ b = 4) → τ2 0 b = σ 0 b := fun b h => f2s 0 b (by omega) (by omega) (by omega)
    have k6 := (fo 5 (by omega)).trans b6
    have k7 := (fo 6 (by omega)).trans b7
    have k8 := (fo 7 (by omega)).trans b8
    have k9 := (fo 8 (by omega)).trans b9
    have k10 := (fo 9 (by omega)).trans b10
    have hCC5 : CC S5 D (txT L tx).2 := CC_of (fun i hi => funext fun b => (f5 _ b (by omega) (by omega) (by omega) (by omega)).trans (f3 _ b (by omega))) hCC2
    have hMA5 : MA c n k p q im h hs ht m bg bx L tx f s S5 := MA_lo hMA (fun a b z => fs a b (by omega) (by omega) (by omega) (by omega) (by omega) (by omega) (by omega) (by omega))
    obtain ⟨gM, gc, gn, gP, gI, gH, gB, gT, gF, gS⟩ := id hMA5
    obtain ⟨τM, hEM, hs9, hsf, hsy, hsn⟩ := hMC S5 gM ⟨hL240, htx, gT.1, gM.2.2.2.2.2.2.1, gM.2.1, gT.2⟩
    rw [if_pos rfl] at hEM
    obtain ⟨y10, yc, yn, y4, y13, y15, yk0, yk1⟩ := hsy rfl
    have q0 : ∀ i, ¬ (0 : Nat).testBit i = true := fun i => by simp
    refine pr_of (v := nI ((txT L tx).2 0)) (σ1 := S5) (σ2 := τM) (fun Q => Cq_of (Er_of ?_)) (fun Q => Cq_of hEM) ?_
    · show Wq none 78 0 [some (.ref (0 : Nat)), none] [] σ _
      rw [run, run2]
      simp only [w78_0, w78_1, w78_4, w78_5, w78_8, w78_9, w78_12, w78_15, w78_16, w78_17, w78_18, w78_21, w78_22, w78_23, w78_26, w78_29, w78_33, w78_36, w78_38, w78_39, w78_40, w78_41, w78_42, w78_43, w78_46, w78_47, w78_50, w78_53, w78_56, w78_57, w78_60, w78_61, w78_64, w78_67, w78_68, w78_71, w78_74, w78_75, w78_78, w78_81, w78_82, w78_85, w78_88, w78_89, w78_92, w78_95, w78_96, w78_99, w78_102, ks_0, ks_24, ks_28, ks_94, ks_105, ks_107, kD.1, k4, k6, k7, k8, k9, k10, z0, z1, z2, z3, z4, cst, cpc, cic, chc, cbc, hCC5.2.2.1.1, ↓reduceIte, Option.toList_some, Option.toList_none, List.cons_append, List.nil_append, and_self]
    · have hWA' : WA (txT L tx).2 (bnN (txT L tx).2) 0 p 0 im 0 hs ht 0 bg bx 0 tx s := ⟨hDW.1, WN_bn hDW.1, ⟨by omega, fun i hi => absurd hi (Nat.not_lt_zero _)⟩, ⟨by omega, fun i hi hb => absurd hb (q0 i)⟩, ⟨by omega, hhs, hht⟩, ⟨by omega, fun i hi => absurd hi (Nat.not_lt_zero _)⟩, ⟨by omega, fun i hi => absurd hi (Nat.not_lt_zero _)⟩, hs31⟩
      have hCA' : CA (txT L tx).2 (bnN (txT L tx).2) 0 p 0 im 0 hs ht 0 bg bx 0 tx (-1) s S5 := by
        obtain ⟨i1, i2, i3, i4⟩ := hIm.1
        obtain ⟨o0, o1, o2, o3⟩ := hCP
        refine ⟨⟨D, P, by omega, ⟨?_, ?_, (z4 4).trans k4, (f5 2 5 (by omega) (by omega) (by omega) (by omega)).trans ((f3 2 5 (by omega)).trans k5), (z4 5).trans k6, (z4 6).trans k7, (z4 7).trans k8, (z4 8).trans k9, (z4 9).trans k10, ?_, ?_⟩, hCC5, ?_⟩, ?_, ⟨u, hu, ⟨?_, ?_, ?_, fun i hi => ?_⟩, fun i hi => ?_, fun i hi => absurd hi (Nat.not_lt_zero _)⟩, ⟨⟨?_, ?_, ?_, fun i hi => ?_⟩, fun i hi => ?_, fun i hi hb => absurd hb (q0 i)⟩, ⟨?_, fun _ => ⟨?_, ?_⟩, fun w => absurd w (by omega)⟩, ⟨?_, ?_, ?_, fun i hi => absurd hi (Nat.not_lt_zero _)⟩, ⟨?_, fun i hi => absurd hi (Nat.not_lt_zero _)⟩, ?_, ?_, ?_⟩
        · exact ((z4 0).trans (fo 0 (by omega))).trans b0
        · exact ((z4 3).trans (fo 3 (by omega))).trans b3
        · exact ((z4 10).trans (fo 10 (by omega))).trans b11
        · exact ((z4 11).trans (fo 11 (by omega))).trans b12
        · exact CR_o (fun j hj => fs P j (by omega) (by omega) (by omega) (by omega) (by omega) (by omega) (by omega) (by omega)) hC.2.1
        · exact CN_of (fun i b hi => f5 _ b (by omega) (by omega) (by omega) (by omega)) hCN
        · exact (fs _ _ (by omega) (by omega) (by omega) (by omega) (by omega) (by omega) (by omega) (by omega)).trans o0
        · exact (fs _ _ (by omega) (by omega) (by omega) (by omega) (by omega) (by omega) (by omega) (by omega)).trans o1
        · rw [← hS5]; rfl
        · exact (fs _ _ (by omega) (by omega) (by omega) (by omega) (by omega) (by omega) (by omega) (by omega)).trans (o3 i hi)
        · exact SR_of (fun b => fs _ b (by omega) (by omega) (by omega) (by omega) (by omega) (by omega) (by omega) (by omega)) (hPS i hi)
        · exact (fs _ _ (by omega) (by omega) (by omega) (by omega) (by omega) (by omega) (by omega) (by omega)).trans i1
        · exact (fs _ _ (by omega) (by omega) (by omega) (by omega) (by omega) (by omega) (by omega) (by omega)).trans i2
        · rw [← hS5]; rfl
        · exact (fs _ _ (by omega) (by omega) (by omega) (by omega) (by omega) (by omega) (by omega) (by omega)).trans (i4 i hi)
        · exact SR_of (fun b => fs _ b (by omega) (by omega) (by omega) (by omega) (by omega) (by omega) (by omega) (by omega)) (hIm.2.1 i hi)
        · exact (fs _ _ (by omega) (by omega) (by omega) (by omega) (by omega) (by omega) (by omega) (by omega)).trans hHe.1
        · rw [← hS5]; rfl
        · rw [← hS5]; rfl
        · rw [← hS5]; rfl
        · exact (fs _ _ (by omega) (by omega) (by omega) (by omega) (by omega) (by omega) (by omega) (by omega)).trans hBk.2.1
        · exact (fs _ _ (by omega) (by omega) (by omega) (by omega) (by omega) (by omega) (by omega) (by omega)).trans hBk.2.2.1
        · exact ((z4 1).trans (f2 0 1 (by omega))).trans f101
        · exact ((z4 2).trans (f2 0 2 (by omega))).trans f102'
        · exact ((z4 12).trans (fo 12 (by omega))).trans hS
        · exact cSc_of (fun a b z => fs a b (by omega) (by omega) (by omega) (by omega) (by omega) (by omega) (by omega) (by omega)) hSc
      refine inv_mk (f := -1) hWA' hCA' (fun a b z => hsf a b (by omega) (by omega)) ⟨MR_k (fun a b z => hsf a b (by omega) (by omega)) gM, yc, yn, ⟨y4, fun i hi => absurd hi (Nat.not_lt_zero _)⟩, fun i hi => ⟨?_, fun hb => absurd hb (q0 i)⟩, ⟨y13, fun i hi => absurd hi (Nat.not_lt_zero _), fun i _ hi => absurd hi (Nat.not_lt_zero _)⟩, ⟨y15, fun i hi => absurd hi (Nat.not_lt_zero _)⟩, ⟨hs9, fun i hi => absurd hi (Nat.not_lt_zero _)⟩, y10, (hsf _ _ (by omega) (by omega)).trans gS⟩
      rw [if_neg (q0 i)]
      rcases (by omega : i = 0 ∨ i = 1) with r | r
      · rw [r]; exact yk0
      · rw [r]; exact yk1
  · have hfi : fiO w wb = nI wb := if_neg y
    rw [hfi] at f102
    have hwz : ¬ nI w = nI 0 := fun z => y (nI_inj (by omega) (by omega) z)
    obtain ⟨gM, gc, gn, gP, gI, gH, gB, gT, gF, gS⟩ := id hMA1
    obtain ⟨τM, hEM, hs9, hsf, hsy, hsn⟩ := hMC τ1 gM ⟨hL240, htx, gT.1, gM.2.2.2.2.2.2.1, gM.2.1, gT.2⟩
    rw [if_neg y] at hEM
    obtain ⟨y10, yf⟩ := hsn y
    refine pr_of (v := (-10) - nI w) (σ1 := τ1) (σ2 := τM) (fun Q => Cq_of (Er_of ?_)) (fun Q => Cq_of hEM) ?_
    · show Wq none 78 0 [some (.ref (0 : Nat)), none] [] σ _
      rw [run]
      simp only [w78_0, w78_1, w78_4, w78_5, w78_8, w78_9, w78_12, w78_15, w78_16, w78_17, w78_18, w78_21, w78_22, w78_23, w78_26, w78_29, w78_32, w78_33, w78_36, w78_38, w78_39, w78_40, w78_41, w78_42, w78_43, w78_46, w78_47, w78_50, w78_53, w78_56, w78_57, w78_60, w78_61, w78_64, w78_67, w78_68, w78_71, w78_74, w78_75, w78_78, w78_81, w78_82, w78_85, w78_88, w78_89, w78_92, w78_95, w78_96, w78_99, w78_102, hwz, ↓reduceIte, Option.toList_some, Option.toList_none, List.cons_append, List.nil_append, and_self]
    · have hWA' : WA c n k p q im h hs ht m bg bx 0 tx s := ⟨hw, hwn', ⟨hk16, hkp⟩, ⟨hq4, hqi⟩, ⟨hh9, hhs, hht⟩, ⟨hm15, hmb⟩, ⟨by omega, fun i hi => absurd hi (Nat.not_lt_zero _)⟩, hs31⟩
      have hCA' : CA c n k p q im h hs ht m bg bx 0 tx (nI wb) s τ1 := by
        refine ⟨⟨P, D, hPD, ⟨(f1 _ _ (by omega) (by omega) (by omega)).trans b0, (f1 _ _ (by omega) (by omega) (by omega)).trans b3, (f1 _ _ (by omega) (by omega) (by omega)).trans b4, (f1 _ _ (by omega) (by omega) (by omega)).trans b5, (f1 _ _ (by omega) (by omega) (by omega)).trans b6, (f1 _ _ (by omega) (by omega) (by omega)).trans b7, (f1 _ _ (by omega) (by omega) (by omega)).trans b8, (f1 _ _ (by omega) (by omega) (by omega)).trans b9, (f1 _ _ (by omega) (by omega) (by omega)).trans b10, (f1 _ _ (by omega) (by omega) (by omega)).trans b11, (f1 _ _ (by omega) (by omega) (by omega)).trans b12⟩, CC_of (fun i hi => funext fun b => f1 _ b (by omega) (by omega) (by omega)) hC, CR_o (fun j hj => f1D _ j (by omega)) hCRt⟩, cNo_of (fun a b z => f1 a b (by omega) (by omega) (by omega)) hN, cPa_of (fun a b z => f1 a b (by omega) (by omega) (by omega)) hPa, cIm_of (fun a b z => f1 a b (by omega) (by omega) (by omega)) hIm, cHe_of (fun a b z => f1 a b (by omega) (by omega) (by omega)) hHe, CBk_of (fun a b z => f1 a b (by omega) (by omega) (by omega)) hBk, ⟨f101, fun i hi => absurd hi (Nat.not_lt_zero _)⟩, f102, (f1 _ _ (by omega) (by omega) (by omega)).trans hS, cSc_of (fun a b z => f1 a b (by omega) (by omega) (by omega)) hSc⟩
      exact inv_mk (f := nI wb) hWA' hCA' (fun a b z => yf a b (by omega) (by omega)) ⟨MR_k (fun a b z => yf a b (by omega) (by omega)) gM, MC_k (fun a b z => yf a b (by omega) (by omega)) gc, MN_k (fun a b z => yf a b (by omega) (by omega)) gn, mPa_k (fun a b z => yf a b (by omega) (by omega)) gP, mIm_k (fun a b z => yf a b (by omega) (by omega)) gI, MH_k (fun a b z => yf a b (by omega) (by omega)) gH, MB_k (fun a b z => yf a b (by omega) (by omega)) gB, ⟨hs9, fun i hi => absurd hi (Nat.not_lt_zero _)⟩, y10, (yf _ _ (by omega) (by omega)).trans gS⟩
end PC
