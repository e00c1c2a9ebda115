/-! nights by draws: the reference, and drift -/
section DS
variable {σ σ' : dm_G} {Q : Option Value → dm_G → Prop} {S G : Nat} {c n : Nat → Nat} {k : Nat} {p : Nat → Nat → Nat} {q : Nat} {im : Nat → Nat → Nat} {h : Nat} {hs ht : Nat → Nat} {m : Nat} {bg bx : Nat → Nat} {L : Nat} {tx : Nat → Nat} {f : Int32} {s : Nat}
theorem c_drawsA (hWA : WA c n k p q im h hs ht m bg bx L tx s) (hMA : MA c n k p q im h hs ht m bg bx L tx f s σ) (h0 : 0 < c 0) : ∃ τ, (∀ Q : Option Value → dm_G → Prop, Cq 177 [(.ref (118 : Nat))] σ Q = Q none τ) ∧ MA c (dwN c n s) k p q im h hs ht m bg bx L tx f (dwS c s) τ ∧ ∀ a b, a < 118 → τ a b = σ a b := by
  obtain ⟨hw, hwn, ⟨hk16, hkp⟩, ⟨hq4, hqi⟩, ⟨hh9, hhs, hht⟩, ⟨hm15, hmb⟩, ⟨hL240, htx⟩, hs31⟩ := id hWA
  have w0 := hw.1
  have w2 := hw.2.1
  have w3 := hw.2.2.1
  have key : ∃ (τ : dm_G) (u1 u2 u3 u4 : Option Value), (∀ Q : Option Value → dm_G → Prop, Wq none 177 0 [some (.ref (118 : Nat)), none, none, none, none] [] σ Q = Wq none 177 70 [some (.ref (118 : Nat)), u1, u2, u3, u4] [] τ Q) ∧ MA c (aaN c n s) k p q im h hs ht m bg bx L tx f (aaS c s) τ ∧ ∀ a b, a < 118 → τ a b = σ a b := by
    obtain ⟨hM, hc, -⟩ := id hMA
    by_cases z2 : 0 < c 2
    · have g2 : ¬ nI (c 2) ≤ nI 0 := nI_ge (by omega) (by omega)
      by_cases z3 : 0 < c 3
      · have g3 : ¬ nI (c 3) ≤ nI 0 := nI_ge (by omega) (by omega)
        obtain ⟨τ1, p2, p3, p4, e1, hC1, k1⟩ := l_mAt (i := 0) (v2 := none) (v3 := none) (v4 := none) (by omega) hWA hMA z2 z3
        have W1 := WA_s (WA_now hWA (WN_at (s := s) hw hwn z2 z3)) (drS_lt (drS s))
        obtain ⟨τ2, q2, q3, q4, e2, hC2, k2⟩ := l_mAt (i := 1) (v2 := p2) (v3 := p3) (v4 := p4) (by omega) W1 hC1 z2 z3
        have W2 := WA_s (WA_now W1 (WN_at (s := drS (drS s)) hw W1.2.1 z2 z3)) (drS_lt (drS (drS (drS s))))
        obtain ⟨τ3, r2, r3, r4, e3, hC3, k3⟩ := l_mAt (i := 2) (v2 := q2) (v3 := q3) (v4 := q4) (by omega) W2 hC2 z2 z3
        refine ⟨τ3, some (.int (nI 3)), r2, r3, r4, fun Q => ?_, ?_, fun a b z => (k3 a b z).trans ((k2 a b z).trans (k1 a b z))⟩
        · simp only [w177_0, w177_1, w177_3, w177_4, w177_7, w177_8, w177_11, w177_12, w177_13, w177_16, w177_17, w177_20, w177_21, w177_22, w177_25, w177_26, w177_27, w177_30, w177_31, w177_32, w177_35, w177_36, w177_37, w177_38, w177_41, w177_42, w177_43, w177_46, w177_47, w177_48, w177_49, w177_50, w177_53, w177_56, w177_57, w177_58, w177_59, w177_62, w177_64, w177_67, w177_71, w177_73, w177_76, w177_79, w177_80, w177_83, w177_85, w177_86, w177_87, w177_88, w177_89, w177_90, w177_93, w177_94, w177_95, w177_98, w177_99, w177_100, w177_101, ↓reduceIte, Option.toList_some, Option.toList_none, List.cons_append, List.nil_append]
          rw [e1, e2, e3]
          simp only [w177_0, w177_1, w177_2, w177_3, w177_4, w177_7, w177_8, w177_11, w177_12, w177_13, w177_16, w177_17, w177_20, w177_21, w177_22, w177_25, w177_26, w177_27, w177_30, w177_31, w177_32, w177_35, w177_36, w177_37, w177_38, w177_41, w177_42, w177_43, w177_46, w177_47, w177_48, w177_49, w177_50, w177_53, w177_56, w177_57, w177_58, w177_59, w177_62, w177_64, w177_67, w177_71, w177_73, w177_76, w177_79, w177_80, w177_83, w177_85, w177_86, w177_87, w177_88, w177_89, w177_90, w177_93, w177_94, w177_95, w177_98, w177_99, w177_100, w177_101, Nat.reduceAdd, (by decide : nI 3 ≤ nI 3), ↓reduceIte, Option.toList_some, Option.toList_none, List.cons_append, List.nil_append]
        · rw [aaN, if_pos ⟨z2, z3⟩, aaS, if_pos ⟨z2, z3⟩]
          exact hC3
      · have g3 : nI (c 3) ≤ nI 0 := nI_le (by omega) (by omega)
        refine ⟨σ, some (.int (nI 0)), none, none, none, fun Q => ?_, ?_, fun a b _ => rfl⟩
        · simp only [w177_0, w177_1, w177_2, w177_3, w177_4, w177_7, w177_8, w177_11, w177_12, w177_13, w177_16, w177_17, w177_20, w177_21, w177_22, w177_25, w177_26, w177_27, w177_30, w177_31, w177_32, w177_35, w177_36, w177_37, w177_38, w177_41, w177_42, w177_43, w177_46, w177_47, w177_48, w177_49, w177_50, w177_53, w177_56, w177_57, w177_58, w177_59, w177_62, w177_64, w177_67, w177_71, w177_73, w177_76, w177_79, w177_80, w177_83, w177_85, w177_86, w177_87, w177_88, w177_89, w177_90, w177_93, w177_94, w177_95, w177_98, w177_99, w177_100, w177_101, (by decide : ¬ nI 3 ≤ nI 0), ks_118, hM.1, kt_119, in_nI (show 2 < kl 119 by rw [kl_119]; omega) (by rw [kl_119]; omega), nI_clamp (show 2 < 2 ^ 31 by omega), in_nI (show 3 < kl 119 by rw [kl_119]; omega) (by rw [kl_119]; omega), nI_clamp (show 3 < 2 ^ 31 by omega), hc 2 (by omega), hc 3 (by omega), g2, g3, ↓reduceIte, Option.toList_some, Option.toList_none, List.cons_append, List.nil_append]
        · rw [aaN, if_neg (fun z => z3 z.2), aaS, if_neg (fun z => z3 z.2)]
          exact hMA
    · have g2 : nI (c 2) ≤ nI 0 := nI_le (by omega) (by omega)
      refine ⟨σ, some (.int (nI 0)), none, none, none, fun Q => ?_, ?_, fun a b _ => rfl⟩
      · simp only [w177_0, w177_1, w177_2, w177_3, w177_4, w177_7, w177_8, w177_11, w177_12, w177_13, w177_16, w177_17, w177_20, w177_21, w177_22, w177_25, w177_26, w177_27, w177_30, w177_31, w177_32, w177_35, w177_36, w177_37, w177_38, w177_41, w177_42, w177_43, w177_46, w177_47, w177_48, w177_49, w177_50, w177_53, w177_56, w177_57, w177_58, w177_59, w177_62, w177_64, w177_67, w177_71, w177_73, w177_76, w177_79, w177_80, w177_83, w177_85, w177_86, w177_87, w177_88, w177_89, w177_90, w177_93, w177_94, w177_95, w177_98, w177_99, w177_100, w177_101, (by decide : ¬ nI 3 ≤ nI 0), ks_118, hM.1, kt_119, in_nI (show 2 < kl 119 by rw [kl_119]; omega) (by rw [kl_119]; omega), nI_clamp (show 2 < 2 ^ 31 by omega), hc 2 (by omega), g2, ↓reduceIte, Option.toList_some, Option.toList_none, List.cons_append, List.nil_append]
      · rw [aaN, if_neg (fun z => z2 z.1), aaS, if_neg (fun z => z2 z.1)]
        exact hMA
  obtain ⟨τ1, u1, u2, u3, u4, e1, hMA1, k1⟩ := key
  have hSa := hMA1.2.2.2.2.2.2.2.2.2
  have d1 := fun Q => c_mDraw (Q := Q) (N := 6) (by omega) (by omega) (aaS_lt (c := c) hs31) hSa
  have hv6 : drV (aaS c s) 6 < 6 := drV_lt (by omega)
  have hMA2 := MA_s (s' := drS (aaS c s)) hMA1
  have hMA3 := MA_s (s' := drS (drS (aaS c s))) hMA2
  by_cases hz : drV (aaS c s) 6 = 0
  · obtain ⟨hM2, hc2, hn2, -⟩ := id hMA2
    obtain ⟨hM3, hc3, hn3, -⟩ := id hMA3
    have hx : drV (drS (aaS c s)) (c 0) < 32 := by
      have : drV (drS (aaS c s)) (c 0) < c 0 := drV_lt h0
      omega
    have d2 := fun Q => c_mDraw (Q := Q) (N := c 0) h0 (by omega) (drS_lt (aaS c s)) hMA2.2.2.2.2.2.2.2.2.2
    have hMA4 := MA_up (i := 19) (v := aaN c n s 19 ^^^ 1 <<< drV (drS (aaS c s)) (c 0)) hMA3
    have hMA4 : MA c (dwN c n s) k p q im h hs ht m bg bx L tx f (dwS c s) (dm_up (dm_up (dm_up τ1 118 7 (.long (lN (drS (aaS c s))))) 118 7 (.long (lN (drS (drS (aaS c s)))))) 121 19 (.int (nI (aaN c n s 19 ^^^ 1 <<< drV (drS (aaS c s)) (c 0))))) := by
      rw [dwN, wdN, if_pos hz, dwS, wdS, if_pos hz]
      exact hMA4
    refine ⟨_, fun Q => Cq_of (Er_of ?_), hMA4, fun a b z => (up_lo (by omega) a b z).trans ((up_lo (by omega) a b z).trans ((up_lo (by omega) a b z).trans (k1 a b z)))⟩
    show Wq none 177 0 [some (.ref (118 : Nat)), none, none, none, none] [] σ _
    rw [e1]
    simp only [w177_0, w177_1, w177_3, w177_4, w177_7, w177_8, w177_11, w177_12, w177_13, w177_16, w177_17, w177_20, w177_21, w177_22, w177_25, w177_26, w177_27, w177_30, w177_31, w177_32, w177_35, w177_36, w177_37, w177_38, w177_41, w177_42, w177_43, w177_46, w177_47, w177_48, w177_49, w177_50, w177_53, w177_56, w177_57, w177_58, w177_59, w177_62, w177_64, w177_67, w177_70, w177_71, w177_73, w177_76, w177_79, w177_80, w177_83, w177_85, w177_86, w177_87, w177_88, w177_89, w177_90, w177_93, w177_94, w177_95, w177_98, w177_99, w177_100, w177_101, ks_118, d1, hz, hM2.1, hM2.2.2.1, kt_119, kt_121, in_nI (show 0 < kl 119 by rw [kl_119]; omega) (by rw [kl_119]; omega), nI_clamp (show 0 < 2 ^ 31 by omega), in_nI (show 19 < kl 121 by rw [kl_121]; omega) (by rw [kl_121]; omega), nI_clamp (show 19 < 2 ^ 31 by omega), hc2 0 (by omega), hn2 19 (by omega), d2, nI_shl 1 hx, nI_xor, ↓reduceIte, Option.toList_some, Option.toList_none, List.cons_append, List.nil_append, and_self]
  · have hne : ¬ nI (drV (aaS c s) 6) = nI 0 := fun z => hz (nI_inj (by omega) (by omega) z)
    have hMA4 : MA c (dwN c n s) k p q im h hs ht m bg bx L tx f (dwS c s) (dm_up τ1 118 7 (.long (lN (drS (aaS c s))))) := by
      rw [dwN, wdN, if_neg hz, dwS, wdS, if_neg hz]
      exact hMA2
    refine ⟨_, fun Q => Cq_of (Er_of ?_), hMA4, fun a b z => (up_lo (by omega) a b z).trans (k1 a b z)⟩
    show Wq none 177 0 [some (.ref (118 : Nat)), none, none, none, none] [] σ _
    rw [e1]
    simp only [w177_0, w177_1, w177_3, w177_4, w177_7, w177_8, w177_11, w177_12, w177_13, w177_16, w177_17, w177_20, w177_21, w177_22, w177_25, w177_26, w177_27, w177_30, w177_31, w177_32, w177_35, w177_36, w177_37, w177_38, w177_41, w177_42, w177_43, w177_46, w177_47, w177_48, w177_49, w177_50, w177_53, w177_56, w177_57, w177_58, w177_59, w177_62, w177_64, w177_67, w177_70, w177_71, w177_73, w177_76, w177_79, w177_80, w177_83, w177_85, w177_86, w177_87, w177_88, w177_89, w177_90, w177_93, w177_94, w177_95, w177_98, w177_99, w177_100, w177_101, ks_118, d1, hne, ↓reduceIte, Option.toList_some, Option.toList_none, List.cons_append, List.nil_append, and_self]
theorem c_goesA (hw : WC c) (hMA : MA c (dwN c n s) k p q im h hs ht m bg bx L tx f (dwS c s) σ) : ∃ τ, (∀ Q : Option Value → dm_G → Prop, Cq 167 [(.ref (118 : Nat))] σ Q = Q none τ) ∧ MA c (pnN c n s) k p q im h hs ht m bg bx L tx f (dwS c s) τ ∧ ∀ a b, a < 118 → τ a b = σ a b := by
  have e20 : dwN c n s 20 = n 20 := dwN_20 hw
  have hn := hMA.2.2.1
  have ng : ∀ a b, ¬ (a = 121 ∧ (b = 18 ∨ b = 20)) → ngF σ (dwN c n s) 1 a b = σ a b := fun a b z => by
    rw [ngF, if_neg (by omega), up_get, if_neg (by omega), up_get, if_neg (by omega)]
  refine ⟨ngF σ (dwN c n s) 1, fun Q => c_nightGoes hMA.1 hn, MA_now hMA (fun a b z => ng a b (by omega)) ?_, fun a b z => ng a b (by omega)⟩
  have := ngF_MN (j := 1) (by omega) hn
  rw [e20] at this
  exact this
/-- nights by draws -/
def diN (c : Nat → Nat) : Nat → (Nat → Nat) → Nat → (Nat → Nat) × Nat := fun r => match r with
  | 0 => fun n s => (n, s)
  | r + 1 => fun n s => diN c r (pnN c n s) (dwS c s)
theorem WN_pn (hw : WC c) (hwn : WN c n) (h0 : 0 < c 0) (h20 : n 20 + 1 ≤ 9060) : WN c (pnN c n s) := WN_nt (WN_wd hw (WN_aa hw hwn) h0) hw h20
theorem pnN_20 : pnN c n s 20 = n 20 + 1 := by
  unfold pnN
  rw [up1_ne (by omega), up1_eq]
theorem diN_W (h0 : 0 < c 0) : ∀ (r : Nat) (n : Nat → Nat) (s : Nat), WA c n k p q im h hs ht m bg bx L tx s → n 20 + r ≤ 9060 → WA c (diN c r n s).1 k p q im h hs ht m bg bx L tx (diN c r n s).2 := by
  intro r
  induction r with
  | zero => intro n s hW _; exact hW
  | succ r ih =>
    intro n s hW h20
    refine ih (pnN c n s) (dwS c s) (WA_s (WA_now hW (WN_pn hW.1 hW.2.1 h0 (by omega))) (wdS_lt _)) ?_
    rw [pnN_20]
    omega
theorem l_cDr {d : Nat} {v2 : Option Value} (hd : d < 2 ^ 31) (h0 : 0 < c 0) : ∀ (r i : Nat) (n : Nat → Nat) (s : Nat) (σ : dm_G), i + r = d → WA c n k p q im h hs ht m bg bx L tx s → CA c n k p q im h hs ht m bg bx L tx f s σ → n 20 + r ≤ 9060 → ∃ τ, (∀ Q : Option Value → dm_G → Prop, Wq none 92 25 [some (.ref (0 : Nat)), some (.int (nI d)), v2, some (.int (nI i))] [] σ Q = Q (some (.int (nI ((diN c r n s).1 21)))) τ) ∧ CA c (diN c r n s).1 k p q im h hs ht m bg bx L tx f (diN c r n s).2 τ ∧ ∀ a b, 118 ≤ a → τ a b = σ a b := by
  intro r
  induction r with
  | zero =>
    intro i n s σ hi hWA hCA h20
    obtain rfl : i = d := by omega
    refine ⟨σ, fun Q => ?_, hCA, fun a b _ => rfl⟩
    obtain ⟨⟨P, D, hPD, hB, hC, hD⟩, hN, hPa, hIm, hHe, hBk, hTx, hF, hS, hSc⟩ := id hCA
    obtain ⟨b0, b3, b4, b5, b6, b7, b8, b9, b10, b11, b12⟩ := id hB
    have j6 := hN.2.2.1.2.2.2
    rw [w92_25]
    simp only [w92_0, w92_1, w92_2, w92_5, w92_6, w92_7, w92_10, w92_11, w92_12, w92_13, w92_16, w92_17, w92_20, w92_23, w92_24, w92_26, w92_27, w92_30, w92_31, w92_34, w92_37, w92_40, w92_41, w92_44, w92_47, ks_0, ks_24, nI_le (Nat.le_refl i) hd, b6, j6, ↓reduceIte, Option.toList_some, Option.toList_none, List.cons_append, List.nil_append]
    rfl
  | succ r ih =>
    intro i n s σ hi hWA hCA h20
    have h1 : ¬ nI d ≤ nI i := nI_ge (by omega) hd
    obtain ⟨τ1, e1, hC1, k1⟩ := c_passA hWA hCA h0
    obtain ⟨τ2, e2, hC2, k2⟩ := ih (i + 1) (pnN c n s) (dwS c s) τ1 (by omega) (WA_s (WA_now hWA (WN_pn hWA.1 hWA.2.1 h0 (by omega))) (wdS_lt _)) hC1 (by rw [pnN_20]; omega)
    refine ⟨τ2, fun Q => ?_, hC2, fun a b z => (k2 a b z).trans (k1 a b z)⟩
    rw [w92_25]
    simp only [w92_0, w92_1, w92_2, w92_5, w92_6, w92_7, w92_10, w92_11, w92_12, w92_13, w92_16, w92_17, w92_20, w92_23, w92_24, w92_26, w92_27, w92_30, w92_31, w92_34, w92_37, w92_40, w92_41, w92_44, w92_47, ks_0, h1, e1, nI_add, ↓reduceIte, Option.toList_some, Option.toList_none, List.cons_append, List.nil_append]
    exact e2 Q
theorem l_mDr {d : Nat} {v2 : Option Value} (hd : d < 2 ^ 31) (h0 : 0 < c 0) : ∀ (r i : Nat) (n : Nat → Nat) (s : Nat) (σ : dm_G), i + r = d → WA c n k p q im h hs ht m bg bx L tx s → MA c n k p q im h hs ht m bg bx L tx f s σ → n 20 + r ≤ 9060 → ∃ τ, (∀ Q : Option Value → dm_G → Prop, Wq none 178 18 [some (.ref (118 : Nat)), some (.int (nI d)), v2, some (.int (nI i))] [] σ Q = Q (some (.int (nI ((diN c r n s).1 21)))) τ) ∧ MA c (diN c r n s).1 k p q im h hs ht m bg bx L tx f (diN c r n s).2 τ ∧ ∀ a b, a < 118 → τ a b = σ a b := by
  intro r
  induction r with
  | zero =>
    intro i n s σ hi hWA hMA h20
    obtain rfl : i = d := by omega
    refine ⟨σ, fun Q => ?_, hMA, fun a b _ => rfl⟩
    obtain ⟨hM, hc, hn, -⟩ := id hMA
    rw [w178_18]
    simp only [w178_0, w178_1, w178_2, w178_5, w178_6, w178_7, w178_10, w178_11, w178_12, w178_13, w178_16, w178_17, w178_19, w178_20, w178_23, w178_24, w178_27, w178_28, w178_31, w178_34, w178_37, w178_38, w178_41, w178_43, w178_44, ks_118, nI_le (Nat.le_refl i) hd, hM.2.2.1, kt_121, in_nI (show 21 < kl 121 by rw [kl_121]; omega) (by rw [kl_121]; omega), nI_clamp (show 21 < 2 ^ 31 by omega), hn 21 (by omega), ↓reduceIte, Option.toList_some, Option.toList_none, List.cons_append, List.nil_append]
    rfl
  | succ r ih =>
    intro i n s σ hi hWA hMA h20
    have h1 : ¬ nI d ≤ nI i := nI_ge (by omega) hd
    obtain ⟨τ0, e0, hM0, k0⟩ := c_drawsA hWA hMA h0
    obtain ⟨τ1, e1, hM1, k1⟩ := c_goesA hWA.1 hM0
    obtain ⟨τ2, e2, hM2, k2⟩ := ih (i + 1) (pnN c n s) (dwS c s) τ1 (by omega) (WA_s (WA_now hWA (WN_pn hWA.1 hWA.2.1 h0 (by omega))) (wdS_lt _)) hM1 (by rw [pnN_20]; omega)
    refine ⟨τ2, fun Q => ?_, hM2, fun a b z => (k2 a b z).trans ((k1 a b z).trans (k0 a b z))⟩
    rw [w178_18]
    simp only [w178_0, w178_1, w178_2, w178_5, w178_6, w178_7, w178_10, w178_11, w178_12, w178_13, w178_16, w178_17, w178_19, w178_20, w178_23, w178_24, w178_27, w178_28, w178_31, w178_34, w178_37, w178_38, w178_41, w178_43, w178_44, ks_118, h1, e0, e1, nI_add, ↓reduceIte, Option.toList_some, Option.toList_none, List.cons_append, List.nil_append]
    exact e2 Q
theorem pr_drift (x : Int32) (hI : Inv σ) : Pr Inv 92 178 [.int x] σ := by
  obtain ⟨c, n, k, p, q, im, h, hs, ht, m, bg, bx, L, tx, f, s, hWA, hCA, hMA⟩ := id hI; obtain ⟨hw, hwn, ⟨hk16, hkp⟩, ⟨hq4, hqi⟩, ⟨hh9, hhs, hht⟩, ⟨hm15, hmb⟩, ⟨hL240, htx⟩, hs31⟩ := id hWA; obtain ⟨⟨P, D, hPD, hB, hC, hD⟩, hN, hPa, hIm, hHe, hBk, hTx, hF, hS, hSc⟩ := id hCA; obtain ⟨hM, hc, hn, hmP, hmI, hmH, hmB, hmT, hmF, hmS⟩ := id hMA
  obtain ⟨b0, b3, b4, b5, b6, b7, b8, b9, b10, b11, b12⟩ := id hB
  obtain ⟨w0, w2, w3, w4, w5, w6, w7, w8, w9⟩ := id hw
  obtain ⟨hn1, hn18, hn19, hn20, hn21⟩ := id hwn
  by_cases hx : ∃ j, 1 ≤ j ∧ j ≤ 60 ∧ x = nI j
  · obtain ⟨j, h1, h2, rfl⟩ := hx
    by_cases hr : rfN c n = nI 0
    · have h9 : n 20 ≤ 9000 ∧ 0 < c 0 := by
        unfold rfN at hr
        split at hr
        · exact absurd hr (by decide)
        · split at hr
          · exact ⟨by assumption, by omega⟩
          · exact absurd hr (by decide)
      obtain ⟨h9, h0⟩ := h9
      obtain ⟨τ1, e1, hCA1, k1⟩ := c_keepA hWA hCA
      obtain ⟨τ2, e2, hCA2, k2⟩ := l_cDr (d := j) (v2 := some (.int (nI 0))) (by omega) h0 j 0 n s τ1 (by omega) (WA_push hWA) hCA1 (by omega)
      have hMA2 := MA_lo hMA (fun a b z => (k2 a b z).trans (k1 a b z))
      obtain ⟨τ4, e4, hMA4, k4⟩ := c_rememberA hWA hMA2
      obtain ⟨τ5, e5, hMA5, k5⟩ := l_mDr (d := j) (v2 := some (.int (nI 0))) (by omega) h0 j 0 n s τ4 (by omega) (WA_push hWA) hMA4 (by omega)
      obtain ⟨hM2, hc2, hn2, -⟩ := id hMA2
      refine pr_of (v := nI ((diN c j n s).1 21)) (fun Q => Cq_of (Er_of (σ' := τ2) ?_)) (fun Q => Cq_of (Er_of (σ' := τ5) ?_)) (inv_mk (diN_W h0 j n s (WA_push hWA) (by omega)) hCA2 (fun a b z => (k5 a b z).trans (k4 a b z)) hMA5)
      · show Wq none 92 0 [some (.ref (0 : Nat)), some (.int (nI j)), none, none] [] σ _
        simp only [w92_0, w92_1, w92_2, w92_5, w92_6, w92_7, w92_10, w92_11, w92_12, w92_13, w92_16, w92_17, w92_20, w92_23, w92_24, w92_26, w92_27, w92_30, w92_31, w92_34, w92_37, w92_40, w92_41, w92_44, w92_47, ks_0, ks_28, b6, b7, c_refusal hB hC hN hw (show n 20 < 2 ^ 31 by omega) h1 h2, hr, e1, e2, ↓reduceIte, Option.toList_some, Option.toList_none, List.cons_append, List.nil_append, and_self]
      · show Wq none 178 0 [some (.ref (118 : Nat)), some (.int (nI j)), none, none] [] _ _
        simp only [w178_0, w178_1, w178_2, w178_5, w178_6, w178_7, w178_10, w178_11, w178_12, w178_13, w178_16, w178_17, w178_19, w178_20, w178_23, w178_24, w178_27, w178_28, w178_31, w178_34, w178_37, w178_38, w178_41, w178_43, w178_44, ks_118, c_refuses hM2 hc2 hn2 hw (show n 20 < 2 ^ 31 by omega) h1 h2, hr, e4, e5, ↓reduceIte, Option.toList_some, Option.toList_none, List.cons_append, List.nil_append, and_self]
    · refine pr_of (v := rfN c n) (σ1 := σ) (σ2 := σ) (fun Q => Cq_of (Er_of ?_)) (fun Q => Cq_of (Er_of ?_)) hI
      · show Wq none 92 0 [some (.ref (0 : Nat)), some (.int (nI j)), none, none] [] σ _
        simp only [w92_0, w92_1, w92_2, w92_5, w92_6, w92_7, w92_10, w92_11, w92_12, w92_13, w92_16, w92_17, w92_20, w92_23, w92_24, w92_26, w92_27, w92_30, w92_31, w92_34, w92_37, w92_40, w92_41, w92_44, w92_47, ks_0, c_refusal hB hC hN hw (show n 20 < 2 ^ 31 by omega) h1 h2, hr, ↓reduceIte, Option.toList_some, Option.toList_none, List.cons_append, List.nil_append, and_self]
      · show Wq none 178 0 [some (.ref (118 : Nat)), some (.int (nI j)), none, none] [] _ _
        simp only [w178_0, w178_1, w178_2, w178_5, w178_6, w178_7, w178_10, w178_11, w178_12, w178_13, w178_16, w178_17, w178_19, w178_20, w178_23, w178_24, w178_27, w178_28, w178_31, w178_34, w178_37, w178_38, w178_41, w178_43, w178_44, ks_118, c_refuses hM hc hn hw (show n 20 < 2 ^ 31 by omega) h1 h2, hr, ↓reduceIte, Option.toList_some, Option.toList_none, List.cons_append, List.nil_append, and_self]
  · refine pr_of (v := -1000000002) (σ1 := σ) (σ2 := σ) (fun Q => Cq_of (Er_of ?_)) (fun Q => Cq_of (Er_of ?_)) hI
    · show Wq none 92 0 [some (.ref (0 : Nat)), some (.int x), none, none] [] σ _
      simp only [w92_0, w92_1, w92_2, w92_5, w92_6, w92_7, w92_10, w92_11, w92_12, w92_13, w92_16, w92_17, w92_20, w92_23, w92_24, w92_26, w92_27, w92_30, w92_31, w92_34, w92_37, w92_40, w92_41, w92_44, w92_47, ks_0, c_refusal_f hx, (by decide : ¬ (-1000000002 : Int32) = nI 0), ↓reduceIte, Option.toList_some, Option.toList_none, List.cons_append, List.nil_append, and_self]
    · show Wq none 178 0 [some (.ref (118 : Nat)), some (.int x), none, none] [] _ _
      simp only [w178_0, w178_1, w178_2, w178_5, w178_6, w178_7, w178_10, w178_11, w178_12, w178_13, w178_16, w178_17, w178_19, w178_20, w178_23, w178_24, w178_27, w178_28, w178_31, w178_34, w178_37, w178_38, w178_41, w178_43, w178_44, ks_118, c_refuses_f hx, (by decide : ¬ (-1000000002 : Int32) = nI 0), ↓reduceIte, Option.toList_some, Option.toList_none, List.cons_append, List.nil_append, and_self]
end DS
