/-! who leads whom: both sides as calls -/
section MC2
variable {σ : dm_G} {c n : Nat → Nat} {P D : Nat} {Q : Option Value → dm_G → Prop}
theorem c_allow {ρ : dm_G} {e g : Nat} {s : Int32} {p : Nat} (h2 : ρ 114 2 = (.ref (115 : Nat))) (h3 : ρ 114 3 = (.ref (116 : Nat))) (he : e < 6) (hg : g < 6) : Cq 38 [(.ref (114 : Nat)), .int (nI e), .int (nI g), .int s, .int (nI p)] ρ Q = Q none (dm_up (dm_up ρ 115 (e * 6 + g) (.int s)) 116 (e * 6 + g) (.int (nI p))) := by
  refine Cq_of (Er_of ?_)
  show Wq none 38 0 [some (.ref (114 : Nat)), some (.int (nI e)), some (.int (nI g)), some (.int s), some (.int (nI p))] [] ρ _
  have x3 : dm_up ρ 115 (e * 6 + g) (.int s) 114 3 = (.ref (116 : Nat)) := h3
  simp only [w38_0, w38_1, w38_4, w38_5, w38_7, w38_8, w38_9, w38_10, w38_11, w38_14, w38_15, w38_18, w38_19, w38_21, w38_22, w38_23, w38_24, w38_26, w38_29, ks_114, h2, pk_mul, nI_add, c_put kt_115 (show e * 6 + g < kl 115 by rw [kl_115]; omega) (by rw [kl_115]; omega), x3, c_put kt_116 (show e * 6 + g < kl 116 by rw [kl_116]; omega) (by rw [kl_116]; omega), ↓reduceIte, Option.toList_some, Option.toList_none, List.cons_append, List.nil_append, and_self]
theorem BR_k {ρ : dm_G} (hk : ∀ a b, a ≤ 2 → ρ a b = σ a b) (hB : BR σ P D) : BR ρ P D := by
  obtain ⟨b0, b3, b4, b5, b6, b7, b8, b9, b10, b11, b12⟩ := hB
  exact ⟨(hk _ _ (by omega)).trans b0, (hk _ _ (by omega)).trans b3, (hk _ _ (by omega)).trans b4, (hk _ _ (by omega)).trans b5, (hk _ _ (by omega)).trans b6, (hk _ _ (by omega)).trans b7, (hk _ _ (by omega)).trans b8, (hk _ _ (by omega)).trans b9, (hk _ _ (by omega)).trans b10, (hk _ _ (by omega)).trans b11, (hk _ _ (by omega)).trans b12⟩
/-- how far the class's lengths and prices are told -/
def alP (c n : Nat → Nat) (e g : Nat) (ρ : dm_G) : Prop := ∀ e' g', e' < c 3 → g' < c 2 → (e' < e ∨ (e' = e ∧ g' < g)) → gi ρ 115 (e' * 6 + g') = oI (lenM c n e' g') ∧ gi ρ 116 (e' * 6 + g') = nI (prM c n e' g')
theorem l_alG {x : Int32} {e : Nat} (hPD : (P = 4 ∧ D = 14) ∨ (P = 14 ∧ D = 4)) (hB : BR σ P D) (hC : CC σ P c) (hN : CN σ 24 (c 2) n) (hw : WC c) (hwn : WN c n) (hSc : cSc σ) (he : e < c 3) (kk : ∀ ρ v3 v4, (∀ a b, ¬ ((a = 114 ∧ (b < 2 ∨ 4 < b)) ∨ (114 < a ∧ a < 118)) → ρ a b = σ a b) → ρ 114 0 = .int (nI (c 2)) ∧ ρ 114 1 = .int (nI (c 3)) → alP c n (e + 1) 0 ρ → Wq none 102 109 [some (.ref (0 : Nat)), some (.int x), some (.int (nI e)), v3, v4] [] ρ Q) : ∀ (f g : Nat) (ρ : dm_G) (v4 : Option Value), g + f = c 2 → (∀ a b, ¬ ((a = 114 ∧ (b < 2 ∨ 4 < b)) ∨ (114 < a ∧ a < 118)) → ρ a b = σ a b) → ρ 114 0 = .int (nI (c 2)) ∧ ρ 114 1 = .int (nI (c 3)) → alP c n e g ρ → Wq none 102 56 [some (.ref (0 : Nat)), some (.int x), some (.int (nI e)), some (.int (nI g)), v4] [] ρ Q := by
  have w0 := hw.1
  have w2 := hw.2.1
  have w3 := hw.2.2.1
  intro f
  induction f with
  | zero =>
    intro g ρ v4 hg hk h5 hA
    obtain rfl : g = c 2 := by omega
    have hB' : BR ρ P D := BR_k (fun a b z => hk _ _ (by omega)) hB
    have hC' : CC ρ P c := CC_of (fun i hi => funext fun b => hk _ b (by omega)) hC
    have kP := hC.1.1
    have b4 := hB'.2.2.1
    have i2 := hC'.2.2.1.2.1
    rw [w102_56]
    simp only [w102_0, w102_1, w102_3, w102_6, w102_7, w102_8, w102_11, w102_14, w102_17, w102_19, w102_20, w102_21, w102_24, w102_25, w102_28, w102_31, w102_32, w102_35, w102_38, w102_41, w102_42, w102_43, w102_44, w102_45, w102_48, w102_51, w102_54, w102_55, w102_57, w102_58, w102_61, w102_64, w102_67, w102_68, w102_69, w102_70, w102_73, w102_75, w102_76, w102_79, w102_80, w102_81, w102_83, w102_85, w102_86, w102_89, w102_90, w102_93, w102_94, w102_95, w102_97, w102_100, w102_103, w102_106, w102_112, w102_115, w102_116, w102_119, w102_122, w102_148, w102_149, w102_152, w102_155, w102_156, w102_157, w102_160, w102_163, w102_164, w102_165, w102_168, w102_171, w102_172, w102_173, w102_176, w102_177, w102_180, ks_0, kP, b4, i2, nI_le (Nat.le_refl (c 2)) (show c 2 < 2 ^ 31 by omega), ↓reduceIte, Option.toList_some, Option.toList_none, List.cons_append, List.nil_append]
    exact kk ρ _ _ hk h5 (fun e' g' a b z => hA e' g' a b (by omega))
  | succ f ih =>
    intro g ρ v4 hg hk h5 hA
    have hB' : BR ρ P D := BR_k (fun a b z => hk _ _ (by omega)) hB
    have hC' : CC ρ P c := CC_of (fun i hi => funext fun b => hk _ b (by omega)) hC
    have hN' : CN ρ 24 (c 2) n := CN_of (fun i b hi => hk _ b (by omega)) hN
    have kP := hC.1.1
    obtain ⟨b0, b3, b4, b5, b6, b7, b8, b9, b10, b11, b12⟩ := id hB'
    have i2 := hC'.2.2.1.2.1
    have h2 : ρ 114 2 = (.ref (115 : Nat)) := (hk _ _ (by omega)).trans hSc.2.2.2.1
    have h3 : ρ 114 3 = (.ref (116 : Nat)) := (hk _ _ (by omega)).trans hSc.2.2.2.2.1
    have hlt : ¬ nI (c 2) ≤ nI g := nI_ge (by omega) (by omega)
    have hsf := fun Q => c_streetsFor (Q := Q) hB' hC' hN' hw hwn (show g < c 2 by omega) he
    have fin : ∀ (s : Int32) (p : Nat), s = oI (lenM c n e g) → p = prM c n e g → ∀ v4, Wq none 102 56 [some (.ref (0 : Nat)), some (.int x), some (.int (nI e)), some (.int (nI (g + 1))), v4] [] (dm_up (dm_up ρ 115 (e * 6 + g) (.int s)) 116 (e * 6 + g) (.int (nI p))) Q := by
      intro s p hs hp v4
      refine ih (g + 1) _ v4 (by omega) (fun a b z => by rw [up_get, if_neg (by omega), up_get, if_neg (by omega), hk a b z]) ⟨h5.1, h5.2⟩ (fun e' g' a b z => ?_)
      rw [gi_up, if_neg (by omega), gi_up, gi_up]
      by_cases y : e' = e ∧ g' = g
      · obtain ⟨y1, y2⟩ := y
        subst y1; subst y2
        rw [if_pos ⟨rfl, rfl⟩, if_pos ⟨rfl, rfl⟩, hs, hp]
        exact ⟨rfl, rfl⟩
      · rw [if_neg (by omega), if_neg (by omega), gi_up, if_neg (by omega)]
        exact hA e' g' a b (by omega)
    rw [w102_56]
    cases hl : lwN c n g e with
    | none =>
      rw [hl] at hsf
      have hp : prM c n e g = 0 := by
        unfold prM
        rw [if_pos (by omega), hl]
      simp only [w102_0, w102_1, w102_3, w102_6, w102_7, w102_8, w102_11, w102_14, w102_17, w102_19, w102_20, w102_21, w102_24, w102_25, w102_28, w102_31, w102_32, w102_35, w102_38, w102_41, w102_42, w102_43, w102_44, w102_45, w102_48, w102_51, w102_54, w102_55, w102_57, w102_58, w102_61, w102_64, w102_67, w102_68, w102_69, w102_70, w102_73, w102_75, w102_76, w102_79, w102_80, w102_81, w102_83, w102_85, w102_86, w102_89, w102_90, w102_93, w102_94, w102_95, w102_97, w102_100, w102_103, w102_106, w102_112, w102_115, w102_116, w102_119, w102_122, w102_148, w102_149, w102_152, w102_155, w102_156, w102_157, w102_160, w102_163, w102_164, w102_165, w102_168, w102_171, w102_172, w102_173, w102_176, w102_177, w102_180, ks_0, ks_114, kP, b4, b12, i2, hlt, hsf, oI, c_allow (s := -1) (p := 0) h2 h3 (show e < 6 by omega) (show g < 6 by omega), nI_add, ↓reduceIte, Option.toList_some, Option.toList_none, List.cons_append, List.nil_append]
      exact fin (-1) 0 (by rw [show lenM c n e g = none from hl]; rfl) hp.symm _
    | some d =>
      rw [hl] at hsf
      have hd := lwN_lt hl
      have hm1 : ¬ nI d = -1 := fun q => nI_m1 (show d < 2 ^ 31 by omega) q.symm
      have hp : prM c n e g = csN c (n 20) g d := by
        unfold prM
        rw [if_pos (by omega), hl]
      simp only [w102_0, w102_1, w102_3, w102_6, w102_7, w102_8, w102_11, w102_14, w102_17, w102_19, w102_20, w102_21, w102_24, w102_25, w102_28, w102_31, w102_32, w102_35, w102_38, w102_41, w102_42, w102_43, w102_44, w102_45, w102_48, w102_51, w102_54, w102_55, w102_57, w102_58, w102_61, w102_64, w102_67, w102_68, w102_69, w102_70, w102_73, w102_75, w102_76, w102_79, w102_80, w102_81, w102_83, w102_85, w102_86, w102_89, w102_90, w102_93, w102_94, w102_95, w102_97, w102_100, w102_103, w102_106, w102_112, w102_115, w102_116, w102_119, w102_122, w102_148, w102_149, w102_152, w102_155, w102_156, w102_157, w102_160, w102_163, w102_164, w102_165, w102_168, w102_171, w102_172, w102_173, w102_176, w102_177, w102_180, ks_0, ks_114, kP, b4, b12, i2, hlt, hsf, oIs, hm1, c_priceOf hB' hC' hN' hw hwn (show g < c 2 by omega) (show d ≤ 8 by omega), c_allow (s := nI d) (p := csN c (n 20) g d) h2 h3 (show e < 6 by omega) (show g < 6 by omega), nI_add, ↓reduceIte, Option.toList_some, Option.toList_none, List.cons_append, List.nil_append]
      exact fin (nI d) _ (by rw [show lenM c n e g = some d from hl]; rfl) hp.symm _
theorem l_alE {x : Int32} (hPD : (P = 4 ∧ D = 14) ∨ (P = 14 ∧ D = 4)) (hB : BR σ P D) (hC : CC σ P c) (hN : CN σ 24 (c 2) n) (hw : WC c) (hwn : WN c n) (hSc : cSc σ) (kk : ∀ ρ v2 v3 v4, (∀ a b, ¬ ((a = 114 ∧ (b < 2 ∨ 4 < b)) ∨ (114 < a ∧ a < 118)) → ρ a b = σ a b) → ρ 114 0 = .int (nI (c 2)) ∧ ρ 114 1 = .int (nI (c 3)) → alP c n (c 3) 0 ρ → Wq none 102 115 [some (.ref (0 : Nat)), some (.int x), v2, v3, v4] [] ρ Q) : ∀ (f e : Nat) (ρ : dm_G) (v3 v4 : Option Value), e + f = c 3 → (∀ a b, ¬ ((a = 114 ∧ (b < 2 ∨ 4 < b)) ∨ (114 < a ∧ a < 118)) → ρ a b = σ a b) → ρ 114 0 = .int (nI (c 2)) ∧ ρ 114 1 = .int (nI (c 3)) → alP c n e 0 ρ → Wq none 102 43 [some (.ref (0 : Nat)), some (.int x), some (.int (nI e)), v3, v4] [] ρ Q := by
  have w2 := hw.2.1
  have w3 := hw.2.2.1
  intro f
  induction f with
  | zero =>
    intro e ρ v3 v4 he hk h5 hA
    obtain rfl : e = c 3 := by omega
    have hB' : BR ρ P D := BR_k (fun a b z => hk _ _ (by omega)) hB
    have hC' : CC ρ P c := CC_of (fun i hi => funext fun b => hk _ b (by omega)) hC
    have kP := hC.1.1
    have b4 := hB'.2.2.1
    have i3 := hC'.2.2.1.2.2.1
    rw [w102_43]
    simp only [w102_0, w102_1, w102_3, w102_6, w102_7, w102_8, w102_11, w102_14, w102_17, w102_19, w102_20, w102_21, w102_24, w102_25, w102_28, w102_31, w102_32, w102_35, w102_38, w102_41, w102_42, w102_44, w102_45, w102_48, w102_51, w102_54, w102_55, w102_56, w102_57, w102_58, w102_61, w102_64, w102_67, w102_68, w102_69, w102_70, w102_73, w102_75, w102_76, w102_79, w102_80, w102_81, w102_83, w102_85, w102_86, w102_89, w102_90, w102_93, w102_94, w102_95, w102_97, w102_100, w102_103, w102_106, w102_109, w102_112, w102_116, w102_119, w102_122, w102_148, w102_149, w102_152, w102_155, w102_156, w102_157, w102_160, w102_163, w102_164, w102_165, w102_168, w102_171, w102_172, w102_173, w102_176, w102_177, w102_180, ks_0, kP, b4, i3, nI_le (Nat.le_refl (c 3)) (show c 3 < 2 ^ 31 by omega), ↓reduceIte, Option.toList_some, Option.toList_none, List.cons_append, List.nil_append]
    exact kk ρ _ _ _ hk h5 hA
  | succ f ih =>
    intro e ρ v3 v4 he hk h5 hA
    have hB' : BR ρ P D := BR_k (fun a b z => hk _ _ (by omega)) hB
    have hC' : CC ρ P c := CC_of (fun i hi => funext fun b => hk _ b (by omega)) hC
    have kP := hC.1.1
    have b4 := hB'.2.2.1
    have i3 := hC'.2.2.1.2.2.1
    have hlt : ¬ nI (c 3) ≤ nI e := nI_ge (by omega) (by omega)
    rw [w102_43]
    simp only [w102_0, w102_1, w102_3, w102_6, w102_7, w102_8, w102_11, w102_14, w102_17, w102_19, w102_20, w102_21, w102_24, w102_25, w102_28, w102_31, w102_32, w102_35, w102_38, w102_41, w102_42, w102_44, w102_45, w102_48, w102_51, w102_54, w102_55, w102_57, w102_58, w102_61, w102_64, w102_67, w102_68, w102_69, w102_70, w102_73, w102_75, w102_76, w102_79, w102_80, w102_81, w102_83, w102_85, w102_86, w102_89, w102_90, w102_93, w102_94, w102_95, w102_97, w102_100, w102_103, w102_106, w102_109, w102_112, w102_116, w102_119, w102_122, w102_148, w102_149, w102_152, w102_155, w102_156, w102_157, w102_160, w102_163, w102_164, w102_165, w102_168, w102_171, w102_172, w102_173, w102_176, w102_177, w102_180, ks_0, kP, b4, i3, hlt, ↓reduceIte, Option.toList_some, Option.toList_none, List.cons_append, List.nil_append]
    refine l_alG hPD hB hC hN hw hwn hSc (show e < c 3 by omega) (fun ρ v3 v4 hk h5 hA => ?_) (c 2) 0 ρ v4 (by omega) hk h5 hA
    simp only [w102_0, w102_1, w102_3, w102_6, w102_7, w102_8, w102_11, w102_14, w102_17, w102_19, w102_20, w102_21, w102_24, w102_25, w102_28, w102_31, w102_32, w102_35, w102_38, w102_41, w102_42, w102_44, w102_45, w102_48, w102_51, w102_54, w102_55, w102_56, w102_57, w102_58, w102_61, w102_64, w102_67, w102_68, w102_69, w102_70, w102_73, w102_75, w102_76, w102_79, w102_80, w102_81, w102_83, w102_85, w102_86, w102_89, w102_90, w102_93, w102_94, w102_95, w102_97, w102_100, w102_103, w102_106, w102_109, w102_112, w102_116, w102_119, w102_122, w102_148, w102_149, w102_152, w102_155, w102_156, w102_157, w102_160, w102_163, w102_164, w102_165, w102_168, w102_171, w102_172, w102_173, w102_176, w102_177, w102_180, nI_add, ↓reduceIte, Option.toList_some, Option.toList_none, List.cons_append, List.nil_append]
    exact ih (e + 1) ρ _ _ (by omega) hk h5 hA
/-- the class up to its table -/
theorem l_mcl {x : Int32} (hPD : (P = 4 ∧ D = 14) ∨ (P = 14 ∧ D = 4)) (hB : BR σ P D) (hC : CC σ P c) (hN : CN σ 24 (c 2) n) (hw : WC c) (hwn : WN c n) (hSc : cSc σ) (h1 : ¬ x < -3) (h2 : x < nI (c 3)) (kk : ∀ ρ v2 v3 v4, (∀ a b, ¬ ((a = 114 ∧ (b < 2 ∨ 4 < b)) ∨ (114 < a ∧ a < 118)) → ρ a b = σ a b) → mtS (lenM c n) (prM c n) (c 3) (c 2) ρ → ρ 114 5 = .int (nI (longN (lenM c n) (prM c n) (c 2) (c 3))) → ρ 114 6 = .int (nI (mostN (lenM c n) (prM c n) (c 2) (c 3))) → ρ 114 7 = .int (nI (longN (lenM c n) (prM c n) (c 2) (c 3))) → ρ 114 8 = .int (nI (costN (lenM c n) (prM c n) (c 2) (c 3))) → mtV (lenM c n) (prM c n) (c 3) (c 2) (longN (lenM c n) (prM c n) (c 2) (c 3)) ρ → Wq none 102 122 [some (.ref (0 : Nat)), some (.int x), v2, v3, v4] [] ρ Q) : Wq none 102 0 [some (.ref (0 : Nat)), some (.int x), none, none, none] [] σ Q := by
  have w2 := hw.2.1
  have w3 := hw.2.2.1
  have kP := hC.1.1
  obtain ⟨b0, b3, b4, b5, b6, b7, b8, b9, b10, b11, b12⟩ := id hB
  have i2 := hC.2.2.1.2.1
  have i3 := hC.2.2.1.2.2.1
  have eS : ∀ Q : Option Value → dm_G → Prop, Cq 37 [(.ref (114 : Nat)), .int (nI (c 2)), .int (nI (c 3))] σ Q = Q none (dm_up (dm_up σ 114 0 (.int (nI (c 2)))) 114 1 (.int (nI (c 3)))) := fun Q => by
    refine Cq_of (Er_of ?_)
    show Wq none 37 0 [some (.ref (114 : Nat)), some (.int (nI (c 2))), some (.int (nI (c 3)))] [] σ _
    simp only [w37_0, w37_1, w37_2, w37_5, w37_6, w37_7, w37_10, ks_114, ↓reduceIte, Option.toList_some, Option.toList_none, List.cons_append, List.nil_append, and_self]
  simp only [w102_0, w102_1, w102_3, w102_6, w102_7, w102_8, w102_11, w102_14, w102_17, w102_19, w102_20, w102_21, w102_24, w102_25, w102_28, w102_31, w102_32, w102_35, w102_38, w102_41, w102_42, w102_44, w102_45, w102_48, w102_51, w102_54, w102_55, w102_56, w102_57, w102_58, w102_61, w102_64, w102_67, w102_68, w102_69, w102_70, w102_73, w102_75, w102_76, w102_79, w102_80, w102_81, w102_83, w102_85, w102_86, w102_89, w102_90, w102_93, w102_94, w102_95, w102_97, w102_100, w102_103, w102_106, w102_109, w102_112, w102_115, w102_116, w102_119, w102_122, w102_148, w102_149, w102_152, w102_155, w102_156, w102_157, w102_160, w102_163, w102_164, w102_165, w102_168, w102_171, w102_172, w102_173, w102_176, w102_177, w102_180, ks_0, ks_114, kP, b4, b12, i2, i3, h1, h2, eS, ↓reduceIte, Option.toList_some, Option.toList_none, List.cons_append, List.nil_append]
  refine l_alE hPD hB hC hN hw hwn hSc (fun ρ v2 v3 v4 hk h5 hA => ?_) (c 3) 0 _ none none (by omega) (fun a b z => by rw [up_get, if_neg (by omega), up_get, if_neg (by omega)]) ⟨rfl, rfl⟩ (fun e' g' a b z => absurd z (by omega))
  have hmS : mtS (lenM c n) (prM c n) (c 3) (c 2) ρ := ⟨h5.1, h5.2, (hk _ _ (by omega)).trans hSc.2.2.2.1, (hk _ _ (by omega)).trans hSc.2.2.2.2.1, (hk _ _ (by omega)).trans hSc.2.2.2.2.2, fun e g he hg => hA e g he hg (Or.inl he)⟩
  obtain ⟨ρ', e1, k1, s5, s6, s7, s8, hV⟩ := c_solve hmS w3 w2 (lenM_8 (n := n) hw) (prM_p (n := n) hw)
  have b12' : ρ 0 11 = (.ref (114 : Nat)) := (hk _ _ (by omega)).trans b12
  simp only [w102_0, w102_1, w102_3, w102_6, w102_7, w102_8, w102_11, w102_14, w102_17, w102_19, w102_20, w102_21, w102_24, w102_25, w102_28, w102_31, w102_32, w102_35, w102_38, w102_41, w102_42, w102_43, w102_44, w102_45, w102_48, w102_51, w102_54, w102_55, w102_56, w102_57, w102_58, w102_61, w102_64, w102_67, w102_68, w102_69, w102_70, w102_73, w102_75, w102_76, w102_79, w102_80, w102_81, w102_83, w102_85, w102_86, w102_89, w102_90, w102_93, w102_94, w102_95, w102_97, w102_100, w102_103, w102_106, w102_109, w102_112, w102_115, w102_116, w102_119, w102_148, w102_149, w102_152, w102_155, w102_156, w102_157, w102_160, w102_163, w102_164, w102_165, w102_168, w102_171, w102_172, w102_173, w102_176, w102_177, w102_180, ks_0, ks_114, b12', e1, ↓reduceIte, Option.toList_some, Option.toList_none, List.cons_append, List.nil_append]
  exact kk ρ' _ _ _ (fun a b z => (k1 a b (by omega)).trans (hk a b z)) (mtS_of (fun a b z => k1 a b (by omega)) hmS) s5 s6 s7 s8 hV
theorem longN_8 (hw : WC c) : longN (lenM c n) (prM c n) (c 2) (c 3) ≤ 8 := (lm_ok (v := fun l => vD (lenM c n) (prM c n) (c 2) l (c 3) 0 0) (most := mostN (lenM c n) (prM c n) (c 2) (c 3)) (Nat.le_refl _) 8 0 (by omega) (fun l' h => absurd h (by omega))).2.1
end MC2
