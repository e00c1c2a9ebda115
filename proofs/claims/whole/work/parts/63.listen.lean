/-! listen: both sides -/
section LI
variable {σ σ' : dm_G} {Q : Option Value → dm_G → Prop} {c n : Nat → Nat}
theorem l_liR {v1 v2 v3 v4 v6 v7 : Option Value} (hM : MR σ) (kk : ∀ ρ, (∀ a, a ≠ 136 → ρ a = σ a) → (∀ j, j < 6 → gi ρ 136 j = nI 0) → Wq none 200 46 [some (.ref (118 : Nat)), v1, v2, v3, v4, some (.int (nI 6)), v6, v7] [] ρ Q) : ∀ (f i : Nat) (ρ : dm_G), i + f = 6 → (∀ a, a ≠ 136 → ρ a = σ a) → (∀ j, j < i → gi ρ 136 j = nI 0) → Wq none 200 25 [some (.ref (118 : Nat)), v1, v2, v3, v4, some (.int (nI i)), v6, v7] [] ρ Q := by
  intro f
  induction f with
  | zero =>
    intro i ρ hi hk h0
    obtain rfl : i = 6 := by omega
    rw [w200_25]
    simp only [w200_0, w200_1, w200_2, w200_5, w200_6, w200_7, w200_10, w200_11, w200_12, w200_13, w200_14, w200_16, w200_18, w200_19, w200_22, w200_23, w200_27, w200_29, w200_32, w200_33, w200_36, w200_38, w200_39, w200_40, w200_43, w200_47, w200_49, w200_50, w200_52, w200_54, w200_55, w200_58, w200_59, w200_60, w200_63, w200_64, w200_66, w200_69, w200_72, w200_73, w200_76, w200_77, w200_78, w200_80, w200_82, w200_85, w200_86, w200_87, w200_89, w200_90, w200_93, w200_95, w200_96, w200_97, w200_98, w200_99, w200_100, w200_102, w200_103, w200_106, w200_108, w200_109, w200_112, w200_114, w200_117, w200_120, w200_122, w200_123, w200_126, w200_128, w200_131, w200_132, w200_133, w200_135, w200_136, w200_139, w200_140, w200_143, w200_146, w200_147, (by decide : nI 6 ≤ nI 6), ↓reduceIte, Option.toList_some, Option.toList_none, List.cons_append, List.nil_append]
    exact kk ρ hk h0
  | succ f ih =>
    intro i ρ hi hk h0
    have h1 : ¬ nI 6 ≤ nI i := nI_ge (by omega) (by omega)
    have m32 : ρ 118 32 = (.ref (136 : Nat)) := by rw [hk 118 (by omega)]; exact hM.2.2.2.2.2.2.2.2.2.2.2.2.2.2.2.2.2
    rw [w200_25]
    simp only [w200_0, w200_1, w200_2, w200_5, w200_6, w200_7, w200_10, w200_11, w200_12, w200_13, w200_14, w200_16, w200_18, w200_19, w200_22, w200_23, w200_27, w200_29, w200_32, w200_33, w200_36, w200_38, w200_39, w200_40, w200_43, w200_47, w200_49, w200_50, w200_52, w200_54, w200_55, w200_58, w200_59, w200_60, w200_63, w200_64, w200_66, w200_69, w200_72, w200_73, w200_76, w200_77, w200_78, w200_80, w200_82, w200_85, w200_86, w200_87, w200_89, w200_90, w200_93, w200_95, w200_96, w200_97, w200_98, w200_99, w200_100, w200_102, w200_103, w200_106, w200_108, w200_109, w200_112, w200_114, w200_117, w200_120, w200_122, w200_123, w200_126, w200_128, w200_131, w200_132, w200_133, w200_135, w200_136, w200_139, w200_140, w200_143, w200_146, w200_147, ks_118, h1, m32, kt_136, in_nI (show i < kl 136 by rw [kl_136]; omega) (by rw [kl_136]; omega), nI_clamp (show i < 2 ^ 31 by omega), nI_add, ↓reduceIte, Option.toList_some, Option.toList_none, List.cons_append, List.nil_append]
    refine ih (i + 1) _ (by omega) (fun a z => by rw [up_cell z, hk a z]) (fun j hj => ?_)
    rw [gi_up]
    by_cases z : j = i
    · rw [if_pos ⟨rfl, z⟩]
    · rw [if_neg (fun w => z w.2)]
      exact h0 j (by omega)
theorem l_liX {s t : Nat} {v2 v3 : Option Value} (hM : MR σ) (hc : MC σ c) (hw : WC c) (hs : s < 256) (ht : t < 3) (kk : ∀ ρ v7, (∀ a, a ≠ 136 → ρ a = σ a) → Wq none 200 120 [some (.ref (118 : Nat)), some (.int (nI s)), v2, v3, some (.int (nI t)), some (.int (nI (gpN c s t 6))), some (.int (nI (c 0))), v7] [] ρ Q) : ∀ (f x : Nat) (ρ : dm_G) (v7 : Option Value), x + f = c 0 → (∀ a, a ≠ 136 → ρ a = σ a) → (∀ j, j < 6 → gi ρ 136 j = nI (cnS c s t j x)) → Wq none 200 52 [some (.ref (118 : Nat)), some (.int (nI s)), v2, v3, some (.int (nI t)), some (.int (nI (gpG c s t x 6))), some (.int (nI x)), v7] [] ρ Q := by
  obtain ⟨w0, w2, w3, w4, w5, w6, w7, w8, w9⟩ := id hw
  intro f
  induction f with
  | zero =>
    intro x ρ v7 hx hk h0
    obtain rfl : x = c 0 := by omega
    have hc2 : MC ρ c := MC_of (hk 119 (by omega)) hc
    have m0 : ρ 118 0 = (.ref (119 : Nat)) := by rw [hk 118 (by omega)]; exact hM.1
    rw [w200_52, gpG_N]
    simp only [w200_0, w200_1, w200_2, w200_5, w200_6, w200_7, w200_10, w200_11, w200_12, w200_13, w200_14, w200_16, w200_18, w200_19, w200_22, w200_23, w200_25, w200_27, w200_29, w200_32, w200_33, w200_36, w200_38, w200_39, w200_40, w200_43, w200_46, w200_47, w200_49, w200_50, w200_54, w200_55, w200_58, w200_59, w200_60, w200_63, w200_64, w200_66, w200_69, w200_72, w200_73, w200_76, w200_77, w200_78, w200_80, w200_82, w200_85, w200_86, w200_87, w200_89, w200_90, w200_93, w200_95, w200_96, w200_97, w200_98, w200_99, w200_100, w200_102, w200_103, w200_106, w200_108, w200_109, w200_112, w200_114, w200_117, w200_122, w200_123, w200_126, w200_128, w200_131, w200_132, w200_133, w200_135, w200_136, w200_139, w200_140, w200_143, w200_146, w200_147, ks_118, m0, kt_119, in_nI (show 0 < kl 119 by rw [kl_119]; omega) (by rw [kl_119]; omega), nI_clamp (show 0 < 2 ^ 31 by omega), hc2 0 (by omega), nI_le (Nat.le_refl (c 0)) (show c 0 < 2 ^ 31 by omega), ↓reduceIte, Option.toList_some, Option.toList_none, List.cons_append, List.nil_append]
    exact kk ρ v7 hk
  | succ f ih =>
    intro x ρ v7 hx hk h0
    have hM2 : MR ρ := MR_of (hk 118 (by omega)) hM
    have hc2 : MC ρ c := MC_of (hk 119 (by omega)) hc
    have m0 : ρ 118 0 = (.ref (119 : Nat)) := hM2.1
    have m32 : ρ 118 32 = (.ref (136 : Nat)) := hM2.2.2.2.2.2.2.2.2.2.2.2.2.2.2.2.2.2
    have h1 : ¬ nI (c 0) ≤ nI x := nI_ge (by omega) (by omega)
    have hT := w6 (3 * x + t) (by omega)
    have hE := w5 (c (13 + (3 * x + t))) hT
    have h8 : ∀ y, gpG c s t y 6 ≤ y := fun y => by
      have h := fun sd => cnS_le (c := c) (s := s) (t := t) (sd := sd) y
      have := h 0; have := h 1; have := h 2; have := h 3; have := h 4; have := h 5
      rw [gpG_6]
      omega
    rw [w200_52]
    by_cases hb : s.testBit x = true
    · have e1 := gpG_y (c := c) (s := s) (t := t) (x := x) hb hE
      have ih := fun ρ v => ih (x + 1) ρ v (by omega)
      rw [e1] at ih
      have hE' : c (5 + c (13 + (3 * x + t))) < 6 := hE
      have eT : Tn c x t = c (13 + (3 * x + t)) := rfl
      rw [eT] at ih
      have hcn := cnS_le (c := c) (s := s) (t := t) (sd := c (5 + c (13 + (3 * x + t)))) x
      have g1 := h0 _ hE'
      let ρ1 : dm_G := dm_up ρ 136 (c (5 + c (13 + (3 * x + t)))) (.int (nI (cnS c s t (c (5 + c (13 + (3 * x + t)))) x + 1)))
      have y1 : ρ1 118 32 = (.ref (136 : Nat)) := m32
      have y2 : gi ρ1 136 (c (5 + c (13 + (3 * x + t)))) = nI (cnS c s t (c (5 + c (13 + (3 * x + t)))) x + 1) := by
        show gi (dm_up ρ 136 _ _) 136 _ = _
        rw [gi_up, if_pos ⟨rfl, rfl⟩]
      have h8x := h8 x
      simp only [w200_0, w200_1, w200_2, w200_5, w200_6, w200_7, w200_10, w200_11, w200_12, w200_13, w200_14, w200_16, w200_18, w200_19, w200_22, w200_23, w200_25, w200_27, w200_29, w200_32, w200_33, w200_36, w200_38, w200_39, w200_40, w200_43, w200_46, w200_47, w200_49, w200_50, w200_54, w200_55, w200_58, w200_59, w200_60, w200_63, w200_64, w200_66, w200_69, w200_72, w200_73, w200_76, w200_77, w200_78, w200_80, w200_82, w200_85, w200_86, w200_87, w200_89, w200_90, w200_93, w200_95, w200_96, w200_97, w200_98, w200_99, w200_102, w200_103, w200_106, w200_108, w200_109, w200_112, w200_114, w200_117, w200_122, w200_123, w200_126, w200_128, w200_131, w200_132, w200_133, w200_135, w200_136, w200_139, w200_140, w200_143, w200_146, w200_147, ks_118, m0, m32, kt_119, kt_136, in_nI (show 0 < kl 119 by rw [kl_119]; omega) (by rw [kl_119]; omega), nI_clamp (show 0 < 2 ^ 31 by omega), hc2 0 (by omega), h1, c_has (show s < 2 ^ 31 by omega) (show x < 32 by omega), hb, nI_ne1, c_turned hM2 hc2 (show 13 + (3 * x + t) < 79 by omega), nI_add 5, in_nI (show 5 + c (13 + (3 * x + t)) < kl 119 by rw [kl_119]; omega) (by rw [kl_119]; omega), nI_clamp (show 5 + c (13 + (3 * x + t)) < 2 ^ 31 by omega), hc2 (5 + c (13 + (3 * x + t))) (by omega), in_nI (show c (5 + c (13 + (3 * x + t))) < kl 136 by rw [kl_136]; omega) (by rw [kl_136]; omega), nI_clamp (show c (5 + c (13 + (3 * x + t))) < 2 ^ 31 by omega), g1, nI_add (cnS c s t (c (5 + c (13 + (3 * x + t)))) x) 1, ↓reduceIte, Option.toList_some, Option.toList_none, List.cons_append, List.nil_append]
      show Wq none 200 100 [some (.ref (118 : Nat)), some (.int (nI s)), v2, v3, some (.int (nI t)), some (.int (nI (gpG c s t x 6))), some (.int (nI x)), some (.int (nI (c (5 + c (13 + (3 * x + t))))))] [] ρ1 Q
      simp only [w200_0, w200_1, w200_2, w200_5, w200_6, w200_7, w200_10, w200_11, w200_12, w200_13, w200_14, w200_16, w200_18, w200_19, w200_22, w200_23, w200_25, w200_27, w200_29, w200_32, w200_33, w200_36, w200_38, w200_39, w200_40, w200_43, w200_46, w200_47, w200_49, w200_50, w200_54, w200_55, w200_58, w200_59, w200_60, w200_63, w200_64, w200_66, w200_69, w200_72, w200_73, w200_76, w200_77, w200_78, w200_80, w200_82, w200_85, w200_86, w200_87, w200_89, w200_90, w200_93, w200_95, w200_96, w200_97, w200_98, w200_99, w200_100, w200_102, w200_103, w200_106, w200_108, w200_109, w200_112, w200_114, w200_117, w200_122, w200_123, w200_126, w200_128, w200_131, w200_132, w200_133, w200_135, w200_136, w200_139, w200_140, w200_143, w200_146, w200_147, ks_118, y1, kt_136, in_nI (show c (5 + c (13 + (3 * x + t))) < kl 136 by rw [kl_136]; omega) (by rw [kl_136]; omega), nI_clamp (show c (5 + c (13 + (3 * x + t))) < 2 ^ 31 by omega), y2, c_greater (show gpG c s t x 6 < 2 ^ 31 by omega) (show cnS c s t (c (5 + c (13 + (3 * x + t)))) x + 1 < 2 ^ 31 by omega), nI_add x 1, ↓reduceIte, Option.toList_some, Option.toList_none, List.cons_append, List.nil_append]
      refine ih _ _ (fun a z => by show dm_up ρ 136 _ _ a = _; rw [up_cell z, hk a z]) (fun j hj => ?_)
      show gi (dm_up ρ 136 _ _) 136 j = _
      rw [gi_up, cnS_S, eT]
      by_cases z : j = c (5 + c (13 + (3 * x + t)))
      · rw [if_pos ⟨rfl, z⟩, if_pos ⟨hb, z.symm⟩, z]
      · rw [if_neg (fun w => z w.2), if_neg (fun w => z w.2.symm)]
        exact h0 j hj
    · have e1 := gpG_n (c := c) (s := s) (t := t) (x := x) hb
      have ih := fun ρ v => ih (x + 1) ρ v (by omega)
      rw [e1] at ih
      simp only [w200_0, w200_1, w200_2, w200_5, w200_6, w200_7, w200_10, w200_11, w200_12, w200_13, w200_14, w200_16, w200_18, w200_19, w200_22, w200_23, w200_25, w200_27, w200_29, w200_32, w200_33, w200_36, w200_38, w200_39, w200_40, w200_43, w200_46, w200_47, w200_49, w200_50, w200_54, w200_55, w200_58, w200_59, w200_60, w200_63, w200_64, w200_66, w200_69, w200_72, w200_73, w200_76, w200_77, w200_78, w200_80, w200_82, w200_85, w200_86, w200_87, w200_89, w200_90, w200_93, w200_95, w200_96, w200_97, w200_98, w200_99, w200_100, w200_102, w200_103, w200_106, w200_108, w200_109, w200_112, w200_114, w200_117, w200_122, w200_123, w200_126, w200_128, w200_131, w200_132, w200_133, w200_135, w200_136, w200_139, w200_140, w200_143, w200_146, w200_147, ks_118, m0, kt_119, in_nI (show 0 < kl 119 by rw [kl_119]; omega) (by rw [kl_119]; omega), nI_clamp (show 0 < 2 ^ 31 by omega), hc2 0 (by omega), h1, c_has (show s < 2 ^ 31 by omega) (show x < 32 by omega), hb, nI_add x 1, ↓reduceIte, Option.toList_some, Option.toList_none, List.cons_append, List.nil_append, Bool.false_eq_true]
      refine ih _ _ hk (fun j hj => ?_)
      rw [cnS_S, if_neg (fun w => hb w.1)]
      exact h0 j hj
theorem ltS {s t : Nat} : ltN c s (t + 1) = if gpN c s t 6 < (ltN c s t).2 then (some t, gpN c s t 6) else ltN c s t := rfl
theorem l_liT {s : Nat} (hM : MR σ) (hc : MC σ c) (hw : WC c) (hs : s < 256) (hq : ∀ ρ, (∀ a, a ≠ 136 → ρ a = σ a) → Q (some (.int (oI (ltN c s 3).1))) ρ) : ∀ (f t : Nat) (ρ : dm_G) (v5 v6 v7 : Option Value), t + f = 3 → (∀ a, a ≠ 136 → ρ a = σ a) → Wq none 200 16 [some (.ref (118 : Nat)), some (.int (nI s)), some (.int (nI (ltN c s t).2)), some (.int (oI (ltN c s t).1)), some (.int (nI t)), v5, v6, v7] [] ρ Q := by
  intro f
  induction f with
  | zero =>
    intro t ρ v5 v6 v7 ht hk
    obtain rfl : t = 3 := by omega
    rw [w200_16]
    simp only [w200_0, w200_1, w200_2, w200_5, w200_6, w200_7, w200_10, w200_11, w200_12, w200_13, w200_14, w200_18, w200_19, w200_22, w200_23, w200_27, w200_29, w200_32, w200_33, w200_36, w200_38, w200_39, w200_40, w200_43, w200_46, w200_47, w200_49, w200_50, w200_52, w200_54, w200_55, w200_58, w200_59, w200_60, w200_63, w200_64, w200_66, w200_69, w200_72, w200_73, w200_76, w200_77, w200_78, w200_80, w200_82, w200_85, w200_86, w200_87, w200_89, w200_90, w200_93, w200_95, w200_96, w200_97, w200_98, w200_99, w200_100, w200_102, w200_103, w200_106, w200_108, w200_109, w200_112, w200_114, w200_117, w200_120, w200_122, w200_123, w200_126, w200_128, w200_131, w200_132, w200_133, w200_135, w200_136, w200_139, w200_140, w200_143, w200_146, w200_147, (by decide : nI 3 ≤ nI 3), ↓reduceIte, Option.toList_some, Option.toList_none, List.cons_append, List.nil_append]
    exact hq ρ hk
  | succ f ih =>
    intro t ρ v5 v6 v7 ht hk
    have ih := fun ρ v5 v6 v7 => ih (t + 1) ρ v5 v6 v7 (by omega)
    have h1 : ¬ nI 3 ≤ nI t := nI_ge (by omega) (by omega)
    have h8 := ltN_le (c := c) hs t
    have hg := gpN_le (c := c) (s := s) (t := t) 6
    have w0 := hw.1
    rw [ltS] at ih
    rw [w200_16]
    simp only [w200_0, w200_1, w200_2, w200_5, w200_6, w200_7, w200_10, w200_11, w200_12, w200_13, w200_14, w200_18, w200_19, w200_22, w200_23, w200_27, w200_29, w200_32, w200_33, w200_36, w200_38, w200_39, w200_40, w200_43, w200_46, w200_47, w200_49, w200_50, w200_52, w200_54, w200_55, w200_58, w200_59, w200_60, w200_63, w200_64, w200_66, w200_69, w200_72, w200_73, w200_76, w200_77, w200_78, w200_80, w200_82, w200_85, w200_86, w200_87, w200_89, w200_90, w200_93, w200_95, w200_96, w200_97, w200_98, w200_99, w200_100, w200_102, w200_103, w200_106, w200_108, w200_109, w200_112, w200_114, w200_117, w200_120, w200_122, w200_123, w200_126, w200_128, w200_131, w200_132, w200_133, w200_135, w200_136, w200_139, w200_140, w200_143, w200_146, w200_147, h1, ↓reduceIte, Option.toList_some, Option.toList_none, List.cons_append, List.nil_append]
    refine l_liR hM (fun ρ hk h0 => ?_) 6 0 ρ (by omega) hk (fun j hj => absurd hj (by omega))
    simp only [w200_0, w200_1, w200_2, w200_5, w200_6, w200_7, w200_10, w200_11, w200_12, w200_13, w200_14, w200_16, w200_18, w200_19, w200_22, w200_23, w200_27, w200_29, w200_32, w200_33, w200_36, w200_38, w200_39, w200_40, w200_43, w200_46, w200_47, w200_49, w200_50, w200_54, w200_55, w200_58, w200_59, w200_60, w200_63, w200_64, w200_66, w200_69, w200_72, w200_73, w200_76, w200_77, w200_78, w200_80, w200_82, w200_85, w200_86, w200_87, w200_89, w200_90, w200_93, w200_95, w200_96, w200_97, w200_98, w200_99, w200_100, w200_102, w200_103, w200_106, w200_108, w200_109, w200_112, w200_114, w200_117, w200_122, w200_123, w200_126, w200_128, w200_131, w200_132, w200_133, w200_135, w200_136, w200_139, w200_140, w200_143, w200_146, w200_147, ↓reduceIte, Option.toList_some, Option.toList_none, List.cons_append, List.nil_append]
    have e0 : gpG c s t 0 6 = 0 := by rw [gpG_6]; rfl
    have hX := l_liX (Q := Q) (v2 := some (.int (nI (ltN c s t).2))) (v3 := some (.int (oI (ltN c s t).1))) hM hc hw hs (show t < 3 by omega) (fun ρ v7 hk => ?_) (c 0) 0 ρ v7 (by omega) hk h0
    · rw [e0] at hX
      exact hX
    · by_cases hl : gpN c s t 6 < (ltN c s t).2
      · rw [if_pos hl] at ih
        have hl2 : ¬ nI (ltN c s t).2 ≤ nI (gpN c s t 6) := nI_ge hl (by omega)
        simp only [w200_0, w200_1, w200_2, w200_5, w200_6, w200_7, w200_10, w200_11, w200_12, w200_13, w200_14, w200_18, w200_19, w200_22, w200_23, w200_25, w200_27, w200_29, w200_32, w200_33, w200_36, w200_38, w200_39, w200_40, w200_43, w200_46, w200_47, w200_49, w200_50, w200_52, w200_54, w200_55, w200_58, w200_59, w200_60, w200_63, w200_64, w200_66, w200_69, w200_72, w200_73, w200_76, w200_77, w200_78, w200_80, w200_82, w200_85, w200_86, w200_87, w200_89, w200_90, w200_93, w200_95, w200_96, w200_97, w200_98, w200_99, w200_100, w200_102, w200_103, w200_106, w200_108, w200_109, w200_112, w200_114, w200_117, w200_120, w200_122, w200_123, w200_126, w200_128, w200_131, w200_132, w200_133, w200_135, w200_136, w200_139, w200_140, w200_143, w200_146, w200_147, hl2, c_lesser (show gpN c s t 6 < 2 ^ 31 by omega) (show (ltN c s t).2 < 2 ^ 31 by omega), Nat.min_eq_left (Nat.le_of_lt hl), nI_add, ↓reduceIte, Option.toList_some, Option.toList_none, List.cons_append, List.nil_append]
        exact ih ρ _ _ _ hk
      · rw [if_neg hl] at ih
        have hl2 : nI (ltN c s t).2 ≤ nI (gpN c s t 6) := nI_le (by omega) (by omega)
        simp only [w200_0, w200_1, w200_2, w200_5, w200_6, w200_7, w200_10, w200_11, w200_12, w200_13, w200_14, w200_18, w200_19, w200_22, w200_23, w200_25, w200_27, w200_29, w200_32, w200_33, w200_36, w200_38, w200_39, w200_40, w200_43, w200_46, w200_47, w200_49, w200_50, w200_52, w200_54, w200_55, w200_58, w200_59, w200_60, w200_63, w200_64, w200_66, w200_69, w200_72, w200_73, w200_76, w200_77, w200_78, w200_80, w200_82, w200_85, w200_86, w200_87, w200_89, w200_90, w200_93, w200_95, w200_96, w200_97, w200_98, w200_99, w200_100, w200_102, w200_103, w200_106, w200_108, w200_109, w200_112, w200_114, w200_117, w200_120, w200_122, w200_123, w200_126, w200_128, w200_131, w200_132, w200_133, w200_135, w200_136, w200_139, w200_140, w200_143, w200_146, w200_147, hl2, c_lesser (show gpN c s t 6 < 2 ^ 31 by omega) (show (ltN c s t).2 < 2 ^ 31 by omega), Nat.min_eq_right (Nat.le_of_not_lt hl), nI_add, ↓reduceIte, Option.toList_some, Option.toList_none, List.cons_append, List.nil_append]
        exact ih ρ _ _ _ hk
theorem pr_listen (hI : Inv σ) : Pr Inv 113 200 [] σ := by
  obtain ⟨c, n, k, p, q, im, h, hs, ht, m, bg, bx, L, tx, f, s, hWA, hCA, hMA⟩ := id hI; obtain ⟨hw, hwn, ⟨hk16, hkp⟩, ⟨hq4, hqi⟩, ⟨hh9, hhs, hht⟩, ⟨hm15, hmb⟩, ⟨hL240, htx⟩, hs31⟩ := id hWA; obtain ⟨⟨P, D, hPD, hB, hC, hD⟩, hN, hPa, hIm, hHe, hBk, hTx, hF, hS, hSc⟩ := id hCA; obtain ⟨hM, hc, hn, hmP, hmI, hmH, hmB, hmT, hmF, hmS⟩ := id hMA
  obtain ⟨b0, b3, b4, b5, b6, b7, b8, b9, b10, b11, b12⟩ := id hB
  have kP := hC.1.1
  have hs8 := hrN_lt (hs := hs) (h := h) hw hht
  refine pr_ex (Er_ex ?_)
  show Wq none 113 0 [some (.ref (0 : Nat))] [] σ _
  simp only [w113_0, w113_1, w113_4, w113_5, w113_8, w113_11, ks_0, ks_105, b4, b9, c_bestTurn hC hw hs8 (fun Q => c_hereC hw hht hHe), ↓reduceIte, Option.toList_some, Option.toList_none, List.cons_append, List.nil_append]
  refine ⟨_, rfl, Er_ex ?_⟩
  show Wq none 200 0 [some (.ref (118 : Nat)), none, none, none, none, none, none, none] [] σ _
  simp only [w200_0, w200_1, w200_2, w200_5, w200_6, w200_7, w200_10, w200_11, w200_12, w200_13, w200_14, w200_18, w200_19, w200_22, w200_23, w200_25, w200_27, w200_29, w200_32, w200_33, w200_36, w200_38, w200_39, w200_40, w200_43, w200_46, w200_47, w200_49, w200_50, w200_52, w200_54, w200_55, w200_58, w200_59, w200_60, w200_63, w200_64, w200_66, w200_69, w200_72, w200_73, w200_76, w200_77, w200_78, w200_80, w200_82, w200_85, w200_86, w200_87, w200_89, w200_90, w200_93, w200_95, w200_96, w200_97, w200_98, w200_99, w200_100, w200_102, w200_103, w200_106, w200_108, w200_109, w200_112, w200_114, w200_117, w200_120, w200_122, w200_123, w200_126, w200_128, w200_131, w200_132, w200_133, w200_135, w200_136, w200_139, w200_140, w200_143, w200_146, w200_147, ks_118, c_hereM hM hc hw hmH hh9 hhs hht, c_bits hs8, ↓reduceIte, Option.toList_some, Option.toList_none, List.cons_append, List.nil_append]
  exact l_liT hM hc hw hs8 (fun ρ hk => ⟨rfl, inv_sc hI (fun a b z => by unfold scC scM at z; rw [hk a (by omega)])⟩) 3 0 σ none none none (by omega) (fun a _ => rfl)
end LI
