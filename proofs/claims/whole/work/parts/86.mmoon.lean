/-! the text: the reference's moons, a clause -/
section MQ
variable {L : Nat} {tx : Nat → Nat} {ρ : dm_G} {fg vl : Nat} {sg : Int32} {rd : Nat → Nat}
theorem skB_id {p : Nat} : skB L tx (skB L tx p) = skB L tx p := run_nq (run_no (L := L) (q := isB L tx) isB_L L p (by omega)) L
theorem lt_ch {p ch : Nat} (ht : ∀ i, i < L → tx i < 256) (hc : ch < 48) (h : ltI L tx p = nI ch) : ¬ isF L tx p = true := fun z => by
  have h1 := lt_L h (by omega)
  have h2 : ltI L tx p = nI (tx p) := if_pos h1
  have h3 := ht p h1
  have h4 := nI_inj (by omega) (by omega) (h2.symm.trans h)
  unfold isF at z
  simp only [Bool.and_eq_true, decide_eq_true_eq] at z
  omega
theorem MPo_e {σ : dm_G} {r : (Nat × Nat × Nat) × (Nat → Nat)} {v : Int32} {τ : dm_G} (hk : ∀ i j, ¬ i = 120 → ρ i j = σ i j) (h : MPo ρ r v τ) : MPo σ r v τ := by
  obtain ⟨h1, h2⟩ := h
  refine ⟨fun z => ?_, fun z => ?_⟩
  · obtain ⟨hv, ρ', b, sg, fg, vl, e, f, g⟩ := h1 z
    exact ⟨hv, ρ', b, sg, fg, vl, e, fun i j hi => (f i j hi).trans (hk i j hi), g⟩
  · obtain ⟨hv, w1, w2, w3, w4⟩ := h2 z
    exact ⟨hv, w1, w2, w3, fun i j a b => (w4 i j a b).trans (hk i j b)⟩
theorem l_mmoon : ∀ (f q : Nat) (ρ : dm_G) (rd : Nat → Nat) (b fg vl : Nat) (sg : Int32), f + 1 + rd 4 = 12 → mTX L tx ρ → RD ρ rd → q ≤ 241 →
    ∃ v τ, (∀ Q, Wq none 142 17 [some (.ref (118 : Nat)), some (.int (nI 1))] [] (mS ρ q b sg fg vl) Q = Q (some (.int v)) τ) ∧ MPo ρ (mnT L tx (f + 1) q rd) v τ := by
  intro f
  induction f with
  | zero =>
    intro q ρ rd b fg vl sg hi hT hR hq
    have hL := hT.1
    have a1 : ∀ a b sg fg vl, mS ρ a b sg fg vl 118 1 = (.ref (120 : Nat)) := fun a b sg fg vl => (mS_o (by omega)).trans hT.2.2.2.2.1
    have g4 : gi ρ 120 4 = nI (rd 4) := hR 4 (by omega)
    have q1 := nuE_le (L := L) (tx := tx) q
    rw [mnS]
    by_cases k1 : kN L tx 0 9 q = 0
    · rw [if_pos k1]
      have n1 := fun Q => c_mnu0 (Q := Q) (b := b) (sg := sg) (fg := fg) (vl := vl) (j := 67 + rd 4) hT (show q ≤ 300 by omega) (show 67 + rd 4 < 79 by omega) (show 0 ≤ 1000 by omega) (show 9 ≤ 1000 by omega) k1
      have hT1 : mTX L tx (dm_up ρ 120 (67 + rd 4) (.int (nI (nuV L tx q)))) := mTX_up hT
      have hT2 : mTX L tx (dm_up (dm_up ρ 120 (67 + rd 4) (.int (nI (nuV L tx q)))) 120 4 (.int (nI (rd 4 + 1)))) := mTX_up hT1
      have c1 : ∀ a b sg fg vl, mS (dm_up ρ 120 (67 + rd 4) (.int (nI (nuV L tx q)))) a b sg fg vl 118 1 = (.ref (120 : Nat)) := fun a b sg fg vl => (mS_o (by omega)).trans hT1.2.2.2.2.1
      have c2 : ∀ a b sg fg vl, mS (dm_up (dm_up ρ 120 (67 + rd 4) (.int (nI (nuV L tx q)))) 120 4 (.int (nI (rd 4 + 1)))) a b sg fg vl 118 1 = (.ref (120 : Nat)) := fun a b sg fg vl => (mS_o (by omega)).trans hT2.2.2.2.2.1
      have f2 : ∀ i j, ¬ i = 120 → (dm_up (dm_up ρ 120 (67 + rd 4) (.int (nI (nuV L tx q)))) 120 4 (.int (nI (rd 4 + 1)))) i j = ρ i j := fr_up (fr_up fr_0)
      have g41 : gi (dm_up ρ 120 (67 + rd 4) (.int (nI (nuV L tx q)))) 120 4 = nI (rd 4) := (gi_u (by omega)).trans g4
      have g42 : gi (dm_up (dm_up ρ 120 (67 + rd 4) (.int (nI (nuV L tx q)))) 120 4 (.int (nI (rd 4 + 1)))) 120 4 = nI (rd 4 + 1) := gi_uy
      have hRD : RD (dm_up (dm_up ρ 120 (67 + rd 4) (.int (nI (nuV L tx q)))) 120 4 (.int (nI (rd 4 + 1)))) (rdM rd (nuV L tx q)) := RD_up (RD_up hR)
      have ns := fun Q b sg fg vl => c_mstep (Q := Q) (b := b) (sg := sg) (fg := fg) (vl := vl) hT2 (show nuE L tx q ≤ 300 by omega)
      have e12 : nI (rd 4 + 1) = nI 12 ↔ rd 4 + 1 = 12 := nI_eq (by omega) (by omega)
      have pre : ∀ Q, Wq none 142 17 [some (.ref (118 : Nat)), some (.int (nI 1))] [] (mS ρ q b sg fg vl) Q = Wq none 142 62 [some (.ref (118 : Nat)), some (.int (nI 1))] [.int (nI 44), .int (toS L tx (nuE L tx q))] (mS (dm_up (dm_up ρ 120 (67 + rd 4) (.int (nI (nuV L tx q)))) 120 4 (.int (nI (rd 4 + 1)))) (toA L tx (nuE L tx q)) (skB L tx (nuE L tx q)) (toS L tx (nuE L tx q)) (toF L tx (nuE L tx q)) (toV L tx (nuE L tx q))) Q := by
        intro Q
        rw [w142_17]
        simp only [w142_0, w142_1, w142_4, w142_5, w142_6, w142_9, w142_10, w142_11, w142_14, w142_15, w142_16, w142_18, w142_21, w142_22, w142_24, w142_25, w142_28, w142_29, w142_30, w142_31, w142_32, w142_34, w142_37, w142_40, w142_41, w142_42, w142_43, w142_46, w142_47, w142_48, w142_49, w142_50, w142_51, w142_52, w142_53, w142_56, w142_57, w142_60, w142_65, w142_66, w142_69, w142_70, w142_71, w142_72, w142_75, w142_76, w142_79, w142_80, w142_81, w142_83, w142_86, w142_87, w142_88, w142_91, w142_92, w142_93, w142_96, w142_98, w142_101, w142_102, w142_103, w142_106, w142_109, w142_110, w142_113, w142_114, ks_118, kt_120, a1, c1, in_nI (show 4 < kl 120 by rw [kl_120]; omega) (by rw [kl_120]; omega), nI_clamp (show 4 < 2 ^ 31 by omega), mS_gi2, g4, g41, nI_add, mS_u, n1, ns, nI_ne1, m_18, ↓reduceIte, Option.toList_some, Option.toList_none, List.cons_append, List.nil_append]
      by_cases y : ltI L tx (skB L tx (nuE L tx q)) = nI 44
      · have z := lt_ch hT.2.1 (by omega) y
        have eS : toS L tx (nuE L tx q) = nI 44 := (if_neg z).trans y
        have hlt := lt_L y (by omega)
        have eA : toA L tx (nuE L tx q) = skB L tx (nuE L tx q) + 1 := (if_neg z).trans (if_pos hlt)
        have ef : (nI (rd 4 + 1) = nI 12) = True := eq_true (e12.mpr (by omega))
        rw [if_neg (fun w => w.2 rfl)]
        have k5 : ¬ ltI L tx (skB L tx (nuE L tx q)) = nI 59 := by rw [y]; decide
        have w5 := sg_w1 (L := L) (tx := tx) (ch := 59) (s := (skB L tx (nuE L tx q), 0, 0)) rfl (by show ¬ ltI L tx (skB L tx (skB L tx (nuE L tx q))) = nI 59; rw [skB_id]; exact k5)
        have w6 : isW (psSg L tx 59 (skB L tx (nuE L tx q), 0, 0)) 1 (skB L tx (nuE L tx q)) := by
          have w7 : isW (psSg L tx 59 (skB L tx (nuE L tx q), 0, 0)) 1 (skB L tx (skB L tx (nuE L tx q))) := w5
          rw [skB_id] at w7
          exact w7
        refine ⟨nI 0, fH L tx (dm_up (dm_up ρ 120 (67 + rd 4) (.int (nI (nuV L tx q)))) 120 4 (.int (nI (rd 4 + 1)))) (nuE L tx q) 1, fun Q => ?_, MPo_f w6 (MF_H f2)⟩
        rw [pre]
        simp only [w142_0, w142_1, w142_4, w142_5, w142_6, w142_9, w142_10, w142_11, w142_14, w142_15, w142_16, w142_18, w142_21, w142_22, w142_24, w142_25, w142_28, w142_29, w142_30, w142_31, w142_32, w142_34, w142_37, w142_40, w142_41, w142_42, w142_43, w142_46, w142_47, w142_48, w142_49, w142_50, w142_51, w142_52, w142_53, w142_56, w142_57, w142_60, w142_62, w142_65, w142_66, w142_69, w142_70, w142_71, w142_72, w142_75, w142_76, w142_79, w142_80, w142_81, w142_83, w142_86, w142_87, w142_88, w142_91, w142_92, w142_93, w142_96, w142_98, w142_101, w142_102, w142_103, w142_106, w142_109, w142_110, w142_113, w142_114, ks_118, kt_120, eS, c2, in_nI (show 4 < kl 120 by rw [kl_120]; omega) (by rw [kl_120]; omega), nI_clamp (show 4 < 2 ^ 31 by omega), mS_gi2, g42, ef, nI_ne1, c_fails, (by decide : nI 1 &&& 1 = nI 1), (by decide : nI 0 &&& 1 = nI 0), ↓reduceIte, Option.toList_some, Option.toList_none, List.cons_append, List.nil_append]
        unfold fH
        rw [eS]
      · have eS : ¬ toS L tx (nuE L tx q) = nI 44 := by
          unfold toS
          by_cases z : isF L tx (skB L tx (nuE L tx q)) = true
          · rw [if_pos z]; decide
          · rw [if_neg z]; exact y
        rw [if_neg (fun w => y w.1)]
        by_cases k5 : ltI L tx (skB L tx (nuE L tx q)) = nI 59
        · have hlt := lt_L k5 (by omega)
          have z : ¬ isF L tx (skB L tx (nuE L tx q)) = true := fun z => nuE_f z (by
            have h2 : ltI L tx (skB L tx (nuE L tx q)) = nI (tx (skB L tx (nuE L tx q))) := if_pos hlt
            have h3 := hT.2.1 _ hlt
            have h4 := nI_inj (by omega) (by omega) (h2.symm.trans k5)
            unfold isF at z
            simp only [Bool.and_eq_true, decide_eq_true_eq] at z
            omega)
          have eS2 : toS L tx (nuE L tx q) = nI 59 := (if_neg z).trans k5
          have eA : toA L tx (nuE L tx q) = skB L tx (nuE L tx q) + 1 := (if_neg z).trans (if_pos hlt)
          have z5 := sg_0 (L := L) (tx := tx) (s := (skB L tx (nuE L tx q), 0, 0)) rfl (by show ltI L tx (skB L tx (skB L tx (nuE L tx q))) = nI 59; rw [skB_id]; exact k5)
          have e1 : (psSg L tx 59 (skB L tx (nuE L tx q), 0, 0)).1 = skB L tx (nuE L tx q) + 1 := by
            show skB L tx (skB L tx (nuE L tx q)) + 1 = _
            rw [skB_id]
          refine ⟨nI 1, mS (dm_up (dm_up ρ 120 (67 + rd 4) (.int (nI (nuV L tx q)))) 120 4 (.int (nI (rd 4 + 1)))) (skB L tx (nuE L tx q) + 1) (skB L tx (nuE L tx q)) (nI 59) (toF L tx (nuE L tx q)) (toV L tx (nuE L tx q)), fun Q => ?_, fun _ => ⟨rfl, (dm_up (dm_up ρ 120 (67 + rd 4) (.int (nI (nuV L tx q)))) 120 4 (.int (nI (rd 4 + 1)))), skB L tx (nuE L tx q), nI 59, toF L tx (nuE L tx q), toV L tx (nuE L tx q), by rw [e1], f2, hRD⟩, fun w => absurd z5 w⟩
          rw [pre, eS2, eA]
          simp only [w142_0, w142_1, w142_4, w142_5, w142_6, w142_9, w142_10, w142_11, w142_14, w142_15, w142_16, w142_17, w142_18, w142_21, w142_22, w142_24, w142_25, w142_28, w142_29, w142_30, w142_31, w142_32, w142_34, w142_37, w142_40, w142_41, w142_42, w142_43, w142_46, w142_47, w142_48, w142_49, w142_50, w142_51, w142_52, w142_53, w142_56, w142_57, w142_60, w142_62, w142_65, w142_66, w142_69, w142_70, w142_71, w142_72, w142_75, w142_76, w142_79, w142_80, w142_81, w142_83, w142_86, w142_87, w142_88, w142_91, w142_92, w142_93, w142_96, w142_98, w142_101, w142_102, w142_103, w142_106, w142_109, w142_110, w142_113, w142_114, ks_118, (by decide : ¬ nI 59 = nI 44), m_18, (by decide : nI 1 &&& 1 = nI 1), (by decide : nI 0 &&& 1 = nI 0), ↓reduceIte, Option.toList_some, Option.toList_none, List.cons_append, List.nil_append]
        · have eS2 : ¬ toS L tx (nuE L tx q) = nI 59 := by
            unfold toS
            by_cases z : isF L tx (skB L tx (nuE L tx q)) = true
            · rw [if_pos z]; decide
            · rw [if_neg z]; exact k5
          have w5 := sg_w1 (L := L) (tx := tx) (ch := 59) (s := (skB L tx (nuE L tx q), 0, 0)) rfl (by show ¬ ltI L tx (skB L tx (skB L tx (nuE L tx q))) = nI 59; rw [skB_id]; exact k5)
          have w6 : isW (psSg L tx 59 (skB L tx (nuE L tx q), 0, 0)) 1 (skB L tx (nuE L tx q)) := by
            have w7 : isW (psSg L tx 59 (skB L tx (nuE L tx q), 0, 0)) 1 (skB L tx (skB L tx (nuE L tx q))) := w5
            rw [skB_id] at w7
            exact w7
          refine ⟨nI 0, fH L tx (dm_up (dm_up ρ 120 (67 + rd 4) (.int (nI (nuV L tx q)))) 120 4 (.int (nI (rd 4 + 1)))) (nuE L tx q) 1, fun Q => ?_, MPo_f w6 (MF_H f2)⟩
          rw [pre]
          simp only [w142_0, w142_1, w142_4, w142_5, w142_6, w142_9, w142_10, w142_11, w142_14, w142_15, w142_16, w142_17, w142_18, w142_21, w142_22, w142_24, w142_25, w142_28, w142_29, w142_30, w142_31, w142_32, w142_34, w142_37, w142_40, w142_41, w142_42, w142_43, w142_46, w142_47, w142_48, w142_49, w142_50, w142_51, w142_52, w142_53, w142_56, w142_57, w142_60, w142_62, w142_65, w142_66, w142_69, w142_70, w142_71, w142_72, w142_75, w142_76, w142_79, w142_80, w142_81, w142_83, w142_86, w142_87, w142_88, w142_91, w142_92, w142_93, w142_96, w142_98, w142_101, w142_102, w142_103, w142_106, w142_109, w142_110, w142_113, w142_114, ks_118, eS, eS2, m_18, c_fails, (by decide : nI 1 &&& 1 = nI 1), (by decide : nI 0 &&& 1 = nI 0), ↓reduceIte, Option.toList_some, Option.toList_none, List.cons_append, List.nil_append]
          rfl
    · rw [if_neg k1]
      refine ⟨nI 0, fH L tx ρ q (kN L tx 0 9 q), fun Q => ?_, MPo_f ⟨rfl, k1⟩ (MF_H fr_0)⟩
      have n1 := fun Q => c_fnu (Q := Q) (b := b) (sg := sg) (fg := fg) (vl := vl) (j := 67 + rd 4) hT (show q ≤ 300 by omega) (show 0 ≤ 1000 by omega) (show 9 ≤ 1000 by omega) k1
      rw [w142_17]
      simp only [w142_0, w142_1, w142_4, w142_5, w142_6, w142_9, w142_10, w142_11, w142_14, w142_15, w142_16, w142_18, w142_21, w142_22, w142_24, w142_25, w142_28, w142_29, w142_30, w142_31, w142_32, w142_34, w142_37, w142_40, w142_41, w142_42, w142_43, w142_46, w142_47, w142_48, w142_49, w142_50, w142_51, w142_52, w142_53, w142_56, w142_57, w142_60, w142_62, w142_65, w142_66, w142_69, w142_70, w142_71, w142_72, w142_75, w142_76, w142_79, w142_80, w142_81, w142_83, w142_86, w142_87, w142_88, w142_91, w142_92, w142_93, w142_96, w142_98, w142_101, w142_102, w142_103, w142_106, w142_109, w142_110, w142_113, w142_114, ks_118, kt_120, a1, in_nI (show 4 < kl 120 by rw [kl_120]; omega) (by rw [kl_120]; omega), nI_clamp (show 4 < 2 ^ 31 by omega), mS_gi2, g4, nI_add, n1, nI_ne1, (by decide : nI 1 &&& 1 = nI 1), (by decide : nI 0 &&& 1 = nI 0), ↓reduceIte, Option.toList_some, Option.toList_none, List.cons_append, List.nil_append]
  | succ f ih =>
    intro q ρ rd b fg vl sg hi hT hR hq
    have hL := hT.1
    have a1 : ∀ a b sg fg vl, mS ρ a b sg fg vl 118 1 = (.ref (120 : Nat)) := fun a b sg fg vl => (mS_o (by omega)).trans hT.2.2.2.2.1
    have g4 : gi ρ 120 4 = nI (rd 4) := hR 4 (by omega)
    have q1 := nuE_le (L := L) (tx := tx) q
    rw [mnS]
    by_cases k1 : kN L tx 0 9 q = 0
    · rw [if_pos k1]
      have n1 := fun Q => c_mnu0 (Q := Q) (b := b) (sg := sg) (fg := fg) (vl := vl) (j := 67 + rd 4) hT (show q ≤ 300 by omega) (show 67 + rd 4 < 79 by omega) (show 0 ≤ 1000 by omega) (show 9 ≤ 1000 by omega) k1
      have hT1 : mTX L tx (dm_up ρ 120 (67 + rd 4) (.int (nI (nuV L tx q)))) := mTX_up hT
      have hT2 : mTX L tx (dm_up (dm_up ρ 120 (67 + rd 4) (.int (nI (nuV L tx q)))) 120 4 (.int (nI (rd 4 + 1)))) := mTX_up hT1
      have c1 : ∀ a b sg fg vl, mS (dm_up ρ 120 (67 + rd 4) (.int (nI (nuV L tx q)))) a b sg fg vl 118 1 = (.ref (120 : Nat)) := fun a b sg fg vl => (mS_o (by omega)).trans hT1.2.2.2.2.1
      have c2 : ∀ a b sg fg vl, mS (dm_up (dm_up ρ 120 (67 + rd 4) (.int (nI (nuV L tx q)))) 120 4 (.int (nI (rd 4 + 1)))) a b sg fg vl 118 1 = (.ref (120 : Nat)) := fun a b sg fg vl => (mS_o (by omega)).trans hT2.2.2.2.2.1
      have f2 : ∀ i j, ¬ i = 120 → (dm_up (dm_up ρ 120 (67 + rd 4) (.int (nI (nuV L tx q)))) 120 4 (.int (nI (rd 4 + 1)))) i j = ρ i j := fr_up (fr_up fr_0)
      have g41 : gi (dm_up ρ 120 (67 + rd 4) (.int (nI (nuV L tx q)))) 120 4 = nI (rd 4) := (gi_u (by omega)).trans g4
      have g42 : gi (dm_up (dm_up ρ 120 (67 + rd 4) (.int (nI (nuV L tx q)))) 120 4 (.int (nI (rd 4 + 1)))) 120 4 = nI (rd 4 + 1) := gi_uy
      have hRD : RD (dm_up (dm_up ρ 120 (67 + rd 4) (.int (nI (nuV L tx q)))) 120 4 (.int (nI (rd 4 + 1)))) (rdM rd (nuV L tx q)) := RD_up (RD_up hR)
      have ns := fun Q b sg fg vl => c_mstep (Q := Q) (b := b) (sg := sg) (fg := fg) (vl := vl) hT2 (show nuE L tx q ≤ 300 by omega)
      have e12 : nI (rd 4 + 1) = nI 12 ↔ rd 4 + 1 = 12 := nI_eq (by omega) (by omega)
      have pre : ∀ Q, Wq none 142 17 [some (.ref (118 : Nat)), some (.int (nI 1))] [] (mS ρ q b sg fg vl) Q = Wq none 142 62 [some (.ref (118 : Nat)), some (.int (nI 1))] [.int (nI 44), .int (toS L tx (nuE L tx q))] (mS (dm_up (dm_up ρ 120 (67 + rd 4) (.int (nI (nuV L tx q)))) 120 4 (.int (nI (rd 4 + 1)))) (toA L tx (nuE L tx q)) (skB L tx (nuE L tx q)) (toS L tx (nuE L tx q)) (toF L tx (nuE L tx q)) (toV L tx (nuE L tx q))) Q := by
        intro Q
        rw [w142_17]
        simp only [w142_0, w142_1, w142_4, w142_5, w142_6, w142_9, w142_10, w142_11, w142_14, w142_15, w142_16, w142_18, w142_21, w142_22, w142_24, w142_25, w142_28, w142_29, w142_30, w142_31, w142_32, w142_34, w142_37, w142_40, w142_41, w142_42, w142_43, w142_46, w142_47, w142_48, w142_49, w142_50, w142_51, w142_52, w142_53, w142_56, w142_57, w142_60, w142_65, w142_66, w142_69, w142_70, w142_71, w142_72, w142_75, w142_76, w142_79, w142_80, w142_81, w142_83, w142_86, w142_87, w142_88, w142_91, w142_92, w142_93, w142_96, w142_98, w142_101, w142_102, w142_103, w142_106, w142_109, w142_110, w142_113, w142_114, ks_118, kt_120, a1, c1, in_nI (show 4 < kl 120 by rw [kl_120]; omega) (by rw [kl_120]; omega), nI_clamp (show 4 < 2 ^ 31 by omega), mS_gi2, g4, g41, nI_add, mS_u, n1, ns, nI_ne1, m_18, ↓reduceIte, Option.toList_some, Option.toList_none, List.cons_append, List.nil_append]
      by_cases y : ltI L tx (skB L tx (nuE L tx q)) = nI 44
      · have z := lt_ch hT.2.1 (by omega) y
        have eS : toS L tx (nuE L tx q) = nI 44 := (if_neg z).trans y
        have hlt := lt_L y (by omega)
        have eA : toA L tx (nuE L tx q) = skB L tx (nuE L tx q) + 1 := (if_neg z).trans (if_pos hlt)
        have ef : ¬ rd 4 + 1 = 12 := by omega
        rw [if_pos ⟨y, by omega⟩]
        obtain ⟨v, τ, hr, hp⟩ := ih (skB L tx (nuE L tx q) + 1) (dm_up (dm_up ρ 120 (67 + rd 4) (.int (nI (nuV L tx q)))) 120 4 (.int (nI (rd 4 + 1)))) (rdM rd (nuV L tx q)) (skB L tx (nuE L tx q)) (toF L tx (nuE L tx q)) (toV L tx (nuE L tx q)) (nI 44) (by rw [rdM_4]; omega) hT2 hRD (by omega)
        refine ⟨v, τ, fun Q => ?_, MPo_e f2 hp⟩
        rw [pre, eS, eA, ← hr Q]
        simp only [w142_0, w142_1, w142_4, w142_5, w142_6, w142_9, w142_10, w142_11, w142_14, w142_15, w142_16, w142_18, w142_21, w142_22, w142_24, w142_25, w142_28, w142_29, w142_30, w142_31, w142_32, w142_34, w142_37, w142_40, w142_41, w142_42, w142_43, w142_46, w142_47, w142_48, w142_49, w142_50, w142_51, w142_52, w142_53, w142_56, w142_57, w142_60, w142_62, w142_65, w142_66, w142_69, w142_70, w142_71, w142_72, w142_75, w142_76, w142_79, w142_80, w142_81, w142_83, w142_86, w142_87, w142_88, w142_91, w142_92, w142_93, w142_96, w142_98, w142_101, w142_102, w142_103, w142_106, w142_109, w142_110, w142_113, w142_114, ks_118, kt_120, c2, in_nI (show 4 < kl 120 by rw [kl_120]; omega) (by rw [kl_120]; omega), nI_clamp (show 4 < 2 ^ 31 by omega), mS_gi2, g42, e12, ef, nI_ne1, ↓reduceIte, Option.toList_some, Option.toList_none, List.cons_append, List.nil_append]
      · have eS : ¬ toS L tx (nuE L tx q) = nI 44 := by
          unfold toS
          by_cases z : isF L tx (skB L tx (nuE L tx q)) = true
          · rw [if_pos z]; decide
          · rw [if_neg z]; exact y
        rw [if_neg (fun w => y w.1)]
        by_cases k5 : ltI L tx (skB L tx (nuE L tx q)) = nI 59
        · have hlt := lt_L k5 (by omega)
          have z : ¬ isF L tx (skB L tx (nuE L tx q)) = true := fun z => nuE_f z (by
            have h2 : ltI L tx (skB L tx (nuE L tx q)) = nI (tx (skB L tx (nuE L tx q))) := if_pos hlt
            have h3 := hT.2.1 _ hlt
            have h4 := nI_inj (by omega) (by omega) (h2.symm.trans k5)
            unfold isF at z
            simp only [Bool.and_eq_true, decide_eq_true_eq] at z
            omega)
          have eS2 : toS L tx (nuE L tx q) = nI 59 := (if_neg z).trans k5
          have eA : toA L tx (nuE L tx q) = skB L tx (nuE L tx q) + 1 := (if_neg z).trans (if_pos hlt)
          have z5 := sg_0 (L := L) (tx := tx) (s := (skB L tx (nuE L tx q), 0, 0)) rfl (by show ltI L tx (skB L tx (skB L tx (nuE L tx q))) = nI 59; rw [skB_id]; exact k5)
          have e1 : (psSg L tx 59 (skB L tx (nuE L tx q), 0, 0)).1 = skB L tx (nuE L tx q) + 1 := by
            show skB L tx (skB L tx (nuE L tx q)) + 1 = _
            rw [skB_id]
          refine ⟨nI 1, mS (dm_up (dm_up ρ 120 (67 + rd 4) (.int (nI (nuV L tx q)))) 120 4 (.int (nI (rd 4 + 1)))) (skB L tx (nuE L tx q) + 1) (skB L tx (nuE L tx q)) (nI 59) (toF L tx (nuE L tx q)) (toV L tx (nuE L tx q)), fun Q => ?_, fun _ => ⟨rfl, (dm_up (dm_up ρ 120 (67 + rd 4) (.int (nI (nuV L tx q)))) 120 4 (.int (nI (rd 4 + 1)))), skB L tx (nuE L tx q), nI 59, toF L tx (nuE L tx q), toV L tx (nuE L tx q), by rw [e1], f2, hRD⟩, fun w => absurd z5 w⟩
          rw [pre, eS2, eA]
          simp only [w142_0, w142_1, w142_4, w142_5, w142_6, w142_9, w142_10, w142_11, w142_14, w142_15, w142_16, w142_17, w142_18, w142_21, w142_22, w142_24, w142_25, w142_28, w142_29, w142_30, w142_31, w142_32, w142_34, w142_37, w142_40, w142_41, w142_42, w142_43, w142_46, w142_47, w142_48, w142_49, w142_50, w142_51, w142_52, w142_53, w142_56, w142_57, w142_60, w142_62, w142_65, w142_66, w142_69, w142_70, w142_71, w142_72, w142_75, w142_76, w142_79, w142_80, w142_81, w142_83, w142_86, w142_87, w142_88, w142_91, w142_92, w142_93, w142_96, w142_98, w142_101, w142_102, w142_103, w142_106, w142_109, w142_110, w142_113, w142_114, ks_118, (by decide : ¬ nI 59 = nI 44), m_18, (by decide : nI 1 &&& 1 = nI 1), (by decide : nI 0 &&& 1 = nI 0), ↓reduceIte, Option.toList_some, Option.toList_none, List.cons_append, List.nil_append]
        · have eS2 : ¬ toS L tx (nuE L tx q) = nI 59 := by
            unfold toS
            by_cases z : isF L tx (skB L tx (nuE L tx q)) = true
            · rw [if_pos z]; decide
            · rw [if_neg z]; exact k5
          have w5 := sg_w1 (L := L) (tx := tx) (ch := 59) (s := (skB L tx (nuE L tx q), 0, 0)) rfl (by show ¬ ltI L tx (skB L tx (skB L tx (nuE L tx q))) = nI 59; rw [skB_id]; exact k5)
          have w6 : isW (psSg L tx 59 (skB L tx (nuE L tx q), 0, 0)) 1 (skB L tx (nuE L tx q)) := by
            have w7 : isW (psSg L tx 59 (skB L tx (nuE L tx q), 0, 0)) 1 (skB L tx (skB L tx (nuE L tx q))) := w5
            rw [skB_id] at w7
            exact w7
          refine ⟨nI 0, fH L tx (dm_up (dm_up ρ 120 (67 + rd 4) (.int (nI (nuV L tx q)))) 120 4 (.int (nI (rd 4 + 1)))) (nuE L tx q) 1, fun Q => ?_, MPo_f w6 (MF_H f2)⟩
          rw [pre]
          simp only [w142_0, w142_1, w142_4, w142_5, w142_6, w142_9, w142_10, w142_11, w142_14, w142_15, w142_16, w142_17, w142_18, w142_21, w142_22, w142_24, w142_25, w142_28, w142_29, w142_30, w142_31, w142_32, w142_34, w142_37, w142_40, w142_41, w142_42, w142_43, w142_46, w142_47, w142_48, w142_49, w142_50, w142_51, w142_52, w142_53, w142_56, w142_57, w142_60, w142_62, w142_65, w142_66, w142_69, w142_70, w142_71, w142_72, w142_75, w142_76, w142_79, w142_80, w142_81, w142_83, w142_86, w142_87, w142_88, w142_91, w142_92, w142_93, w142_96, w142_98, w142_101, w142_102, w142_103, w142_106, w142_109, w142_110, w142_113, w142_114, ks_118, eS, eS2, m_18, c_fails, (by decide : nI 1 &&& 1 = nI 1), (by decide : nI 0 &&& 1 = nI 0), ↓reduceIte, Option.toList_some, Option.toList_none, List.cons_append, List.nil_append]
          rfl
    · rw [if_neg k1]
      refine ⟨nI 0, fH L tx ρ q (kN L tx 0 9 q), fun Q => ?_, MPo_f ⟨rfl, k1⟩ (MF_H fr_0)⟩
      have n1 := fun Q => c_fnu (Q := Q) (b := b) (sg := sg) (fg := fg) (vl := vl) (j := 67 + rd 4) hT (show q ≤ 300 by omega) (show 0 ≤ 1000 by omega) (show 9 ≤ 1000 by omega) k1
      rw [w142_17]
      simp only [w142_0, w142_1, w142_4, w142_5, w142_6, w142_9, w142_10, w142_11, w142_14, w142_15, w142_16, w142_18, w142_21, w142_22, w142_24, w142_25, w142_28, w142_29, w142_30, w142_31, w142_32, w142_34, w142_37, w142_40, w142_41, w142_42, w142_43, w142_46, w142_47, w142_48, w142_49, w142_50, w142_51, w142_52, w142_53, w142_56, w142_57, w142_60, w142_62, w142_65, w142_66, w142_69, w142_70, w142_71, w142_72, w142_75, w142_76, w142_79, w142_80, w142_81, w142_83, w142_86, w142_87, w142_88, w142_91, w142_92, w142_93, w142_96, w142_98, w142_101, w142_102, w142_103, w142_106, w142_109, w142_110, w142_113, w142_114, ks_118, kt_120, a1, in_nI (show 4 < kl 120 by rw [kl_120]; omega) (by rw [kl_120]; omega), nI_clamp (show 4 < 2 ^ 31 by omega), mS_gi2, g4, nI_add, n1, nI_ne1, (by decide : nI 1 &&& 1 = nI 1), (by decide : nI 0 &&& 1 = nI 0), ↓reduceIte, Option.toList_some, Option.toList_none, List.cons_append, List.nil_append]
theorem m_readM {p : Nat} (hT : mTX L tx ρ) (hR : RD ρ rd) (hp : p ≤ 240) (h4 : rd 4 ≤ 12) : ∃ v τ, Er 142 [(.ref (118 : Nat))] (mS ρ (p + 1) p sg fg vl) (some (.int v)) τ ∧ MPo ρ (tM L tx rd p) v τ := by
  have a1 : ∀ a b sg fg vl, mS ρ a b sg fg vl 118 1 = (.ref (120 : Nat)) := fun a b sg fg vl => (mS_o (by omega)).trans hT.2.2.2.2.1
  have g4 : gi ρ 120 4 = nI (rd 4) := hR 4 (by omega)
  have e : nI (rd 4) ≤ nI 0 ↔ rd 4 ≤ 0 := nI_leI (by omega) (by omega)
  unfold tM
  by_cases z : rd 4 = 0
  · have hx : rd 4 ≤ 0 := by omega
    rw [if_pos z]
    obtain ⟨v, τ, hr, hpo⟩ := l_mmoon (L := L) (tx := tx) 11 (p + 1) ρ rd p fg vl sg (by omega) hT hR (by omega)
    refine ⟨v, τ, Er_of ?_, hpo⟩
    show Wq none 142 0 [some (.ref (118 : Nat)), none] [] _ _
    simp only [w142_0, w142_1, w142_4, w142_5, w142_6, w142_9, w142_10, w142_11, w142_14, w142_15, w142_16, w142_18, w142_21, w142_22, w142_24, w142_25, w142_28, w142_29, w142_30, w142_31, w142_32, w142_34, w142_37, w142_40, w142_41, w142_42, w142_43, w142_46, w142_47, w142_48, w142_49, w142_50, w142_51, w142_52, w142_53, w142_56, w142_57, w142_60, w142_62, w142_65, w142_66, w142_69, w142_70, w142_71, w142_72, w142_75, w142_76, w142_79, w142_80, w142_81, w142_83, w142_86, w142_87, w142_88, w142_91, w142_92, w142_93, w142_96, w142_98, w142_101, w142_102, w142_103, w142_106, w142_109, w142_110, w142_113, w142_114, ks_118, kt_120, a1, in_nI (show 4 < kl 120 by rw [kl_120]; omega) (by rw [kl_120]; omega), nI_clamp (show 4 < 2 ^ 31 by omega), mS_gi2, g4, e, hx, hr, ↓reduceIte, Option.toList_some, Option.toList_none, List.cons_append, List.nil_append, and_self]
  · have hx : ¬ rd 4 ≤ 0 := by omega
    rw [if_neg z]
    refine ⟨nI 0, dm_up (mS ρ (p + 1) p sg fg vl) 118 21 (.int (nI 3)), Er_of ?_, MPo_f ⟨rfl, by omega⟩ (MF_i fr_0)⟩
    show Wq none 142 0 [some (.ref (118 : Nat)), none] [] _ _
    simp only [w142_0, w142_1, w142_4, w142_5, w142_6, w142_9, w142_10, w142_11, w142_14, w142_15, w142_16, w142_18, w142_21, w142_22, w142_24, w142_25, w142_28, w142_29, w142_30, w142_31, w142_32, w142_34, w142_37, w142_40, w142_41, w142_42, w142_43, w142_46, w142_47, w142_48, w142_49, w142_50, w142_51, w142_52, w142_53, w142_56, w142_57, w142_60, w142_62, w142_65, w142_66, w142_69, w142_70, w142_71, w142_72, w142_75, w142_76, w142_79, w142_80, w142_81, w142_83, w142_86, w142_87, w142_88, w142_91, w142_92, w142_93, w142_96, w142_98, w142_101, w142_102, w142_103, w142_106, w142_109, w142_110, w142_113, w142_114, ks_118, kt_120, a1, in_nI (show 4 < kl 120 by rw [kl_120]; omega) (by rw [kl_120]; omega), nI_clamp (show 4 < 2 ^ 31 by omega), mS_gi2, g4, e, hx, c_fails, (by decide : nI 1 &&& 1 = nI 1), (by decide : nI 0 &&& 1 = nI 0), ↓reduceIte, Option.toList_some, Option.toList_none, List.cons_append, List.nil_append, and_self]
theorem MPo_v {r : (Nat × Nat × Nat) × (Nat → Nat)} {v : Int32} {τ : dm_G} (h : MPo ρ r v τ) : v &&& 1 = v := by
  by_cases z : r.1.2.1 = 0
  · rw [(h.1 z).1]; decide
  · rw [(h.2 z).1]; decide
/-- a clause begins with the letter at skB q -/
theorem m_clause {q : Nat} (hT : mTX L tx ρ) (hR : RD ρ rd) (hw : DW rd) (hq : skB L tx q < L) : ∃ v τ, Er 143 [(.ref (118 : Nat))] (mS ρ (toA L tx q) (skB L tx q) (toS L tx q) (toF L tx q) (toV L tx q)) (some (.int v)) τ ∧ MPo ρ (clT L tx rd (skB L tx q)) v τ := by
  obtain ⟨⟨w0, w2, w3, w4, w5, w6, w7, w8, w9⟩, hw1, hw00⟩ := id hw
  have hL := hT.1
  have a1 : ∀ a b sg fg vl, mS ρ a b sg fg vl 118 1 = (.ref (120 : Nat)) := fun a b sg fg vl => (mS_o (by omega)).trans hT.2.2.2.2.1
  have g0 : gi ρ 120 0 = nI (rd 0) := hR 0 (by omega)
  have ht := hT.2.1 _ hq
  have e : nI (rd 0) = nI 0 ↔ rd 0 = 0 := nI_eq (by omega) (by omega)
  have hf1 : ∀ a sg fg vl, isW ((skB L tx q, 1, skB L tx q) : Nat × Nat × Nat) 1 (skB L tx q) ∧ MF ρ 1 (skB L tx q) (dm_up (mS ρ a (skB L tx q) sg fg vl) 118 21 (.int (nI 1))) := fun a sg fg vl => ⟨⟨rfl, by omega⟩, MF_i fr_0⟩
  by_cases z : isF L tx (skB L tx q) = true
  · have hfig : 48 ≤ tx (skB L tx q) ∧ tx (skB L tx q) ≤ 57 := by
      unfold isF at z
      simp only [Bool.and_eq_true, decide_eq_true_eq] at z
      exact z.2
    have eS : toS L tx q = nI 48 := if_pos z
    have ec : clT L tx rd (skB L tx q) = ((skB L tx q, 1, skB L tx q), rd) := by
      unfold clT
      rw [if_neg (by omega)]
      split
      · rfl
      · rw [if_neg (by omega), if_neg (by omega), if_neg (by omega), if_neg (by omega)]
    rw [ec, eS]
    refine ⟨nI 0, dm_up (mS ρ (toA L tx q) (skB L tx q) (nI 48) (toF L tx q) (toV L tx q)) 118 21 (.int (nI 1)), Er_of ?_, MPo_f (hf1 0 0 0 0).1 (hf1 _ _ _ _).2⟩
    show Wq none 143 0 [some (.ref (118 : Nat))] [] _ _
    have t1 : (nI 48).toInt ≠ 99 := by decide
    have t2 : (nI 48).toInt ≠ 101 := by decide
    have t3 : (nI 48).toInt ≠ 103 := by decide
    have t4 : (nI 48).toInt ≠ 109 := by decide
    by_cases y : rd 0 = 0
    · simp only [w143_0, w143_1, w143_4, w143_6, w143_9, w143_10, w143_13, w143_14, w143_15, w143_18, w143_19, w143_20, w143_23, w143_24, w143_25, w143_28, w143_29, w143_30, w143_33_99, w143_33_101, w143_33_103, w143_33_109, w143_33_d, w143_76, w143_77, w143_80, w143_81, w143_82, w143_85, w143_86, w143_87, w143_90, w143_91, w143_92, w143_95, w143_96, w143_97, w143_98, w143_101, ks_118, kt_120, a1, in_nI (show 0 < kl 120 by rw [kl_120]; omega) (by rw [kl_120]; omega), nI_clamp (show 0 < 2 ^ 31 by omega), mS_gi2, g0, e, y, m_18, (by decide : ¬ nI 48 = nI 110), c_fails, (by decide : nI 1 &&& 1 = nI 1), (by decide : nI 0 &&& 1 = nI 0), ↓reduceIte, Option.toList_some, Option.toList_none, List.cons_append, List.nil_append, and_self]
    · simp only [w143_0, w143_1, w143_4, w143_6, w143_9, w143_10, w143_13, w143_14, w143_15, w143_18, w143_19, w143_20, w143_23, w143_24, w143_25, w143_28, w143_29, w143_30, w143_33_99, w143_33_101, w143_33_103, w143_33_109, w143_33_d, w143_76, w143_77, w143_80, w143_81, w143_82, w143_85, w143_86, w143_87, w143_90, w143_91, w143_92, w143_95, w143_96, w143_97, w143_98, w143_101, ks_118, kt_120, a1, in_nI (show 0 < kl 120 by rw [kl_120]; omega) (by rw [kl_120]; omega), nI_clamp (show 0 < 2 ^ 31 by omega), mS_gi2, g0, e, y, m_18, (by decide : ¬ nI 48 = nI 110), w143_33_d t1 t2 t3 t4, c_fails, (by decide : nI 1 &&& 1 = nI 1), (by decide : nI 0 &&& 1 = nI 0), ↓reduceIte, Option.toList_some, Option.toList_none, List.cons_append, List.nil_append, and_self]
  · have el : ltI L tx (skB L tx q) = nI (tx (skB L tx q)) := if_pos hq
    have eS : toS L tx q = nI (tx (skB L tx q)) := (if_neg z).trans el
    have eA : toA L tx q = skB L tx q + 1 := (if_neg z).trans (if_pos hq)
    rw [eS, eA]
    unfold clT
    by_cases a1' : tx (skB L tx q) = 110
    · rw [if_pos a1', a1']
      obtain ⟨v, τ, hE, hP⟩ := m_readN (fg := toF L tx q) (vl := toV L tx q) (sg := nI 110) hT hR (show skB L tx q ≤ 240 by omega) w0 hw00
      have hv := MPo_v hP
      refine ⟨v, τ, Er_of ?_, hP⟩
      show Wq none 143 0 [some (.ref (118 : Nat))] [] _ _
      simp only [w143_0, w143_1, w143_4, w143_6, w143_9, w143_10, w143_13, w143_14, w143_15, w143_18, w143_19, w143_20, w143_23, w143_24, w143_25, w143_28, w143_29, w143_30, w143_33_99, w143_33_101, w143_33_103, w143_33_109, w143_33_d, w143_76, w143_77, w143_80, w143_81, w143_82, w143_85, w143_86, w143_87, w143_90, w143_91, w143_92, w143_95, w143_96, w143_97, w143_98, w143_101, ks_118, kt_120, a1, in_nI (show 0 < kl 120 by rw [kl_120]; omega) (by rw [kl_120]; omega), nI_clamp (show 0 < 2 ^ 31 by omega), mS_gi2, g0, e, m_18, fun Q => Cq_of (Q := Q) hE, hv, (by decide : nI 1 &&& 1 = nI 1), (by decide : nI 0 &&& 1 = nI 0), ↓reduceIte, Option.toList_some, Option.toList_none, List.cons_append, List.nil_append, and_self]
    · rw [if_neg a1']
      have en : ¬ nI (tx (skB L tx q)) = nI 110 := fun w => a1' (nI_inj (by omega) (by omega) w)
      by_cases a2 : rd 0 = 0
      · rw [if_pos a2]
        refine ⟨nI 0, dm_up (mS ρ (skB L tx q + 1) (skB L tx q) (nI (tx (skB L tx q))) (toF L tx q) (toV L tx q)) 118 21 (.int (nI 1)), Er_of ?_, MPo_f (hf1 0 0 0 0).1 (hf1 _ _ _ _).2⟩
        show Wq none 143 0 [some (.ref (118 : Nat))] [] _ _
        simp only [w143_0, w143_1, w143_4, w143_6, w143_9, w143_10, w143_13, w143_14, w143_15, w143_18, w143_19, w143_20, w143_23, w143_24, w143_25, w143_28, w143_29, w143_30, w143_33_99, w143_33_101, w143_33_103, w143_33_109, w143_33_d, w143_76, w143_77, w143_80, w143_81, w143_82, w143_85, w143_86, w143_87, w143_90, w143_91, w143_92, w143_95, w143_96, w143_97, w143_98, w143_101, ks_118, kt_120, a1, in_nI (show 0 < kl 120 by rw [kl_120]; omega) (by rw [kl_120]; omega), nI_clamp (show 0 < 2 ^ 31 by omega), mS_gi2, g0, e, a2, en, m_18, c_fails, (by decide : nI 1 &&& 1 = nI 1), (by decide : nI 0 &&& 1 = nI 0), ↓reduceIte, Option.toList_some, Option.toList_none, List.cons_append, List.nil_append, and_self]
      · rw [if_neg a2]
        have hp0 : 0 < rd 0 := by omega
        by_cases a3 : tx (skB L tx q) = 99
        · rw [if_pos a3, a3]
          obtain ⟨v, τ, hE, hP⟩ := m_readX (fg := toF L tx q) (vl := toV L tx q) (sg := nI 99) hT hR (show skB L tx q ≤ 240 by omega) w0 hp0 hw1
          have hv := MPo_v hP
          refine ⟨v, τ, Er_of ?_, hP⟩
          show Wq none 143 0 [some (.ref (118 : Nat))] [] _ _
          simp only [w143_0, w143_1, w143_4, w143_6, w143_9, w143_10, w143_13, w143_14, w143_15, w143_18, w143_19, w143_20, w143_23, w143_24, w143_25, w143_28, w143_29, w143_30, w143_33_99, w143_33_101, w143_33_103, w143_33_109, w143_33_d, w143_76, w143_77, w143_80, w143_81, w143_82, w143_85, w143_86, w143_87, w143_90, w143_91, w143_92, w143_95, w143_96, w143_97, w143_98, w143_101, ks_118, kt_120, a1, in_nI (show 0 < kl 120 by rw [kl_120]; omega) (by rw [kl_120]; omega), nI_clamp (show 0 < 2 ^ 31 by omega), mS_gi2, g0, e, a2, m_18, (by decide : ¬ nI 99 = nI 110), fun Q => Cq_of (Q := Q) hE, hv, (by decide : nI 1 &&& 1 = nI 1), (by decide : nI 0 &&& 1 = nI 0), ↓reduceIte, Option.toList_some, Option.toList_none, List.cons_append, List.nil_append, and_self]
        · rw [if_neg a3]
          by_cases a4 : tx (skB L tx q) = 103
          · rw [if_pos a4, a4]
            obtain ⟨v, τ, hE, hP⟩ := m_readG (fg := toF L tx q) (vl := toV L tx q) (sg := nI 103) hT hR (show skB L tx q ≤ 240 by omega) w0 hp0 w2
            have hv := MPo_v hP
            refine ⟨v, τ, Er_of ?_, hP⟩
            show Wq none 143 0 [some (.ref (118 : Nat))] [] _ _
            simp only [w143_0, w143_1, w143_4, w143_6, w143_9, w143_10, w143_13, w143_14, w143_15, w143_18, w143_19, w143_20, w143_23, w143_24, w143_25, w143_28, w143_29, w143_30, w143_33_99, w143_33_101, w143_33_103, w143_33_109, w143_33_d, w143_76, w143_77, w143_80, w143_81, w143_82, w143_85, w143_86, w143_87, w143_90, w143_91, w143_92, w143_95, w143_96, w143_97, w143_98, w143_101, ks_118, kt_120, a1, in_nI (show 0 < kl 120 by rw [kl_120]; omega) (by rw [kl_120]; omega), nI_clamp (show 0 < 2 ^ 31 by omega), mS_gi2, g0, e, a2, m_18, (by decide : ¬ nI 103 = nI 110), fun Q => Cq_of (Q := Q) hE, hv, (by decide : nI 1 &&& 1 = nI 1), (by decide : nI 0 &&& 1 = nI 0), ↓reduceIte, Option.toList_some, Option.toList_none, List.cons_append, List.nil_append, and_self]
          · rw [if_neg a4]
            by_cases a5 : tx (skB L tx q) = 101
            · rw [if_pos a5, a5]
              obtain ⟨v, τ, hE, hP⟩ := m_readE (fg := toF L tx q) (vl := toV L tx q) (sg := nI 101) hT hR (show skB L tx q ≤ 240 by omega) w0 hp0 w3
              have hv := MPo_v hP
              refine ⟨v, τ, Er_of ?_, hP⟩
              show Wq none 143 0 [some (.ref (118 : Nat))] [] _ _
              simp only [w143_0, w143_1, w143_4, w143_6, w143_9, w143_10, w143_13, w143_14, w143_15, w143_18, w143_19, w143_20, w143_23, w143_24, w143_25, w143_28, w143_29, w143_30, w143_33_99, w143_33_101, w143_33_103, w143_33_109, w143_33_d, w143_76, w143_77, w143_80, w143_81, w143_82, w143_85, w143_86, w143_87, w143_90, w143_91, w143_92, w143_95, w143_96, w143_97, w143_98, w143_101, ks_118, kt_120, a1, in_nI (show 0 < kl 120 by rw [kl_120]; omega) (by rw [kl_120]; omega), nI_clamp (show 0 < 2 ^ 31 by omega), mS_gi2, g0, e, a2, m_18, (by decide : ¬ nI 101 = nI 110), fun Q => Cq_of (Q := Q) hE, hv, (by decide : nI 1 &&& 1 = nI 1), (by decide : nI 0 &&& 1 = nI 0), ↓reduceIte, Option.toList_some, Option.toList_none, List.cons_append, List.nil_append, and_self]
            · rw [if_neg a5]
              by_cases a6 : tx (skB L tx q) = 109
              · rw [if_pos a6, a6]
                obtain ⟨v, τ, hE, hP⟩ := m_readM (fg := toF L tx q) (vl := toV L tx q) (sg := nI 109) hT hR (show skB L tx q ≤ 240 by omega) w4
                have hv := MPo_v hP
                refine ⟨v, τ, Er_of ?_, hP⟩
                show Wq none 143 0 [some (.ref (118 : Nat))] [] _ _
                simp only [w143_0, w143_1, w143_4, w143_6, w143_9, w143_10, w143_13, w143_14, w143_15, w143_18, w143_19, w143_20, w143_23, w143_24, w143_25, w143_28, w143_29, w143_30, w143_33_99, w143_33_101, w143_33_103, w143_33_109, w143_33_d, w143_76, w143_77, w143_80, w143_81, w143_82, w143_85, w143_86, w143_87, w143_90, w143_91, w143_92, w143_95, w143_96, w143_97, w143_98, w143_101, ks_118, kt_120, a1, in_nI (show 0 < kl 120 by rw [kl_120]; omega) (by rw [kl_120]; omega), nI_clamp (show 0 < 2 ^ 31 by omega), mS_gi2, g0, e, a2, m_18, (by decide : ¬ nI 109 = nI 110), fun Q => Cq_of (Q := Q) hE, hv, (by decide : nI 1 &&& 1 = nI 1), (by decide : nI 0 &&& 1 = nI 0), ↓reduceIte, Option.toList_some, Option.toList_none, List.cons_append, List.nil_append, and_self]
              · rw [if_neg a6]
                have t1 : (nI (tx (skB L tx q))).toInt ≠ 99 := by rw [nI_toInt (by omega)]; omega
                have t2 : (nI (tx (skB L tx q))).toInt ≠ 101 := by rw [nI_toInt (by omega)]; omega
                have t3 : (nI (tx (skB L tx q))).toInt ≠ 103 := by rw [nI_toInt (by omega)]; omega
                have t4 : (nI (tx (skB L tx q))).toInt ≠ 109 := by rw [nI_toInt (by omega)]; omega
                refine ⟨nI 0, dm_up (mS ρ (skB L tx q + 1) (skB L tx q) (nI (tx (skB L tx q))) (toF L tx q) (toV L tx q)) 118 21 (.int (nI 1)), Er_of ?_, MPo_f (hf1 0 0 0 0).1 (hf1 _ _ _ _).2⟩
                show Wq none 143 0 [some (.ref (118 : Nat))] [] _ _
                simp only [w143_0, w143_1, w143_4, w143_6, w143_9, w143_10, w143_13, w143_14, w143_15, w143_18, w143_19, w143_20, w143_23, w143_24, w143_25, w143_28, w143_29, w143_30, w143_33_99, w143_33_101, w143_33_103, w143_33_109, w143_33_d, w143_76, w143_77, w143_80, w143_81, w143_82, w143_85, w143_86, w143_87, w143_90, w143_91, w143_92, w143_95, w143_96, w143_97, w143_98, w143_101, ks_118, kt_120, a1, in_nI (show 0 < kl 120 by rw [kl_120]; omega) (by rw [kl_120]; omega), nI_clamp (show 0 < 2 ^ 31 by omega), mS_gi2, g0, e, a2, en, m_18, w143_33_d t1 t2 t3 t4, c_fails, (by decide : nI 1 &&& 1 = nI 1), (by decide : nI 0 &&& 1 = nI 0), ↓reduceIte, Option.toList_some, Option.toList_none, List.cons_append, List.nil_append, and_self]
end MQ
