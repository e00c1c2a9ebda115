/-! posing as one -/
/-- one who poses is betrayed by the pair -/
def beN (c : Nat → Nat) (o o' a b : Nat) : Bool := match sbN c a b o with
  | none => false
  | some d => match sbN c a b o' with
    | none => true
    | some d' => decide (d < d')
def paN (c n : Nat → Nat) (g s a b : Nat) : Bool := decide (a ≠ b) && (n (6 + g)).testBit a && (n (6 + g)).testBit b && beN c (andn (n (6 + g)) (n 19)) (andn s (n 19)) a b
def p1N (c n : Nat → Nat) (g s a : Nat) : Nat → Nat := fun b => match b with
  | 0 => 0
  | b + 1 => if paN c n g s a b = true then p1N c n g s a b + 1 else p1N c n g s a b
def p2N (c n : Nat → Nat) (g s : Nat) : Nat → Nat := fun a => match a with
  | 0 => 0
  | a + 1 => p2N c n g s a + p1N c n g s a (c 0)
section PO
variable {σ : dm_G} {c n : Nat → Nat} {P D : Nat} {Q : Option Value → dm_G → Prop}
theorem p1S {g s a b : Nat} : p1N c n g s a (b + 1) = if paN c n g s a b = true then p1N c n g s a b + 1 else p1N c n g s a b := rfl
theorem p2S {g s a : Nat} : p2N c n g s (a + 1) = p2N c n g s a + p1N c n g s a (c 0) := rfl
theorem c_isBetrayed {a b o o' : Nat} (hB : BR σ P D) (hC : CC σ P c) (hw : WC c) (ha : a < c 0) (hb : b < c 0) : Cq 109 [(.ref (0 : Nat)), .int (nI a), .int (nI b), .int (nI o), .int (nI o')] σ Q = Q (some (.int (if beN c o o' a b = true then nI 1 else nI 0))) σ := by
  obtain ⟨b0, b3, b4, b5, b6, b7, b8, b9, b10, b11, b12⟩ := id hB
  obtain ⟨w0, w2, w3, w4, w5, w6, w7, w8, w9⟩ := id hw
  have kP := hC.1.1
  refine Cq_of (Er_of ?_)
  show Wq none 109 0 [some (.ref (0 : Nat)), some (.int (nI a)), some (.int (nI b)), some (.int (nI o)), some (.int (nI o')), none, none] [] σ _
  unfold beN
  cases h1 : sbN c a b o with
  | none =>
    simp only [w109_0, w109_1, w109_4, w109_5, w109_6, w109_7, w109_10, w109_12, w109_14, w109_15, w109_18, w109_19, w109_20, w109_21, w109_24, w109_25, w109_26, w109_28, w109_31, w109_33, w109_35, w109_36, w109_39, w109_41, w109_43, w109_46, w109_47, w109_50, w109_51, ks_0, kP, b4, c_streetsBetween hC hw ha hb, h1, oI, (by decide : nI 1 &&& 1 = nI 1), (by decide : nI 0 &&& 1 = nI 0), ↓reduceIte, Option.toList_some, Option.toList_none, List.cons_append, List.nil_append, and_self, Bool.false_eq_true]
  | some d =>
    have hd := sbN_lt h1
    have hm1 : ¬ nI d = -1 := fun q => nI_m1 (show d < 2 ^ 31 by omega) q.symm
    cases h2 : sbN c a b o' with
    | none =>
      simp only [w109_0, w109_1, w109_4, w109_5, w109_6, w109_7, w109_10, w109_12, w109_14, w109_15, w109_18, w109_19, w109_20, w109_21, w109_24, w109_25, w109_26, w109_28, w109_31, w109_33, w109_35, w109_36, w109_39, w109_41, w109_43, w109_46, w109_47, w109_50, w109_51, ks_0, kP, b4, c_streetsBetween hC hw ha hb, h1, h2, hm1, oI, (by decide : nI 1 &&& 1 = nI 1), (by decide : nI 0 &&& 1 = nI 0), ↓reduceIte, Option.toList_some, Option.toList_none, List.cons_append, List.nil_append, and_self]
    | some d' =>
      have hd' := sbN_lt h2
      have hm2 : ¬ nI d' = -1 := fun q => nI_m1 (show d' < 2 ^ 31 by omega) q.symm
      by_cases hl : d < d'
      · have hl2 : ¬ nI d' ≤ nI d := nI_ge hl (by omega)
        simp only [w109_0, w109_1, w109_4, w109_5, w109_6, w109_7, w109_10, w109_12, w109_14, w109_15, w109_18, w109_19, w109_20, w109_21, w109_24, w109_25, w109_26, w109_28, w109_31, w109_33, w109_35, w109_36, w109_39, w109_41, w109_43, w109_46, w109_47, w109_50, w109_51, ks_0, kP, b4, c_streetsBetween hC hw ha hb, h1, h2, hm1, hm2, hl, hl2, decide_true, oI, (by decide : nI 1 &&& 1 = nI 1), (by decide : nI 0 &&& 1 = nI 0), ↓reduceIte, Option.toList_some, Option.toList_none, List.cons_append, List.nil_append, and_self]
      · have hl2 : nI d' ≤ nI d := nI_le (by omega) (by omega)
        simp only [w109_0, w109_1, w109_4, w109_5, w109_6, w109_7, w109_10, w109_12, w109_14, w109_15, w109_18, w109_19, w109_20, w109_21, w109_24, w109_25, w109_26, w109_28, w109_31, w109_33, w109_35, w109_36, w109_39, w109_41, w109_43, w109_46, w109_47, w109_50, w109_51, ks_0, kP, b4, c_streetsBetween hC hw ha hb, h1, h2, hm1, hm2, hl, hl2, decide_false, oI, (by decide : nI 1 &&& 1 = nI 1), (by decide : nI 0 &&& 1 = nI 0), ↓reduceIte, Option.toList_some, Option.toList_none, List.cons_append, List.nil_append, and_self, Bool.false_eq_true]
theorem l_cPoB {g s a r : Nat} {R : Prop} (hB : BR σ P D) (hC : CC σ P c) (hN : CN σ 24 (c 2) n) (hw : WC c) (hwn : WN c n) (hg : g < c 2) (ha : a < c 0) (kk : ∀ v7, Wq none 107 43 [some (.ref (0 : Nat)), some (.int (nI g)), some (.int (nI s)), some (.int (nI (n (6 + g)))), some (.int (nI (r + p1N c n g s a (c 0)))), some (.int (nI (a + 1))), some (.int (nI (c 0))), v7] [] σ Q = R) :
    ∀ (f b : Nat) (v7 : Option Value), b + f = c 0 → Wq none 107 58 [some (.ref (0 : Nat)), some (.int (nI g)), some (.int (nI s)), some (.int (nI (n (6 + g)))), some (.int (nI (r + p1N c n g s a b))), some (.int (nI a)), some (.int (nI b)), v7] [] σ Q = R := by
  obtain ⟨b0, b3, b4, b5, b6, b7, b8, b9, b10, b11, b12⟩ := id hB
  obtain ⟨w0, w2, w3, w4, w5, w6, w7, w8, w9⟩ := id hw
  obtain ⟨⟨kS, ⟨u1, v1⟩, ⟨u2, v2⟩, ⟨u3, v3⟩⟩, ⟨q0, q1, q2⟩, ⟨j3, j4, j5, j6⟩, jf⟩ := id hN
  have kP := hC.1.1
  obtain ⟨-, -, ⟨i0, i2, i3, i4⟩, -⟩ := id hC
  have p8 : 2 ^ c 0 ≤ 2 ^ 8 := Nat.pow_le_pow_right (by decide) w0
  have g31 : n (6 + g) < 2 ^ 31 := by have := (hwn.1 g hg).2.1; omega
  intro f
  induction f with
  | zero =>
    intro b v7 hb
    obtain rfl : b = c 0 := by omega
    rw [w107_58]
    simp only [w107_0, w107_1, w107_4, w107_5, w107_8, w107_11, w107_12, w107_15, w107_16, w107_19, w107_22, w107_24, w107_25, w107_26, w107_29, w107_32, w107_33, w107_36, w107_37, w107_38, w107_40, w107_41, w107_45, w107_46, w107_49, w107_52, w107_55, w107_56, w107_60, w107_61, w107_64, w107_67, w107_70, w107_72, w107_74, w107_77, w107_78, w107_80, w107_81, w107_82, w107_83, w107_86, w107_87, w107_89, w107_90, w107_91, w107_92, w107_95, w107_96, w107_99, w107_100, w107_102, w107_104, w107_107, w107_108, w107_110, w107_112, w107_113, w107_116, w107_117, w107_120, w107_121, w107_122, w107_125, w107_128, w107_129, w107_130, w107_131, w107_134, w107_137, w107_140, w107_143, w107_146, w107_149, w107_152, w107_154, ks_0, kP, b4, i0, nI_le (Nat.le_refl (c 0)) (show c 0 < 2 ^ 31 by omega), nI_add, ↓reduceIte, Option.toList_some, Option.toList_none, List.cons_append, List.nil_append]
    exact kk v7
  | succ f ih =>
    intro b v7 hb
    have ih := fun v => ih (b + 1) v (by omega)
    have h1 : ¬ nI (c 0) ≤ nI b := nI_ge (by omega) (by omega)
    have ea : nI a = nI b ↔ a = b := nI_eq (by omega) (by omega)
    rw [p1S] at ih
    rw [w107_58]
    by_cases h2 : a = b
    · have hp : paN c n g s a b = false := by unfold paN; simp [h2]
      rw [if_neg (by rw [hp]; decide)] at ih
      subst h2
      simp only [w107_0, w107_1, w107_4, w107_5, w107_8, w107_11, w107_12, w107_15, w107_16, w107_19, w107_22, w107_24, w107_25, w107_26, w107_29, w107_32, w107_33, w107_36, w107_37, w107_38, w107_40, w107_41, w107_45, w107_46, w107_49, w107_52, w107_55, w107_56, w107_60, w107_61, w107_64, w107_67, w107_70, w107_72, w107_74, w107_77, w107_78, w107_80, w107_81, w107_82, w107_83, w107_86, w107_87, w107_89, w107_90, w107_91, w107_92, w107_95, w107_96, w107_99, w107_100, w107_102, w107_104, w107_107, w107_108, w107_110, w107_112, w107_113, w107_116, w107_117, w107_120, w107_121, w107_122, w107_125, w107_128, w107_129, w107_130, w107_131, w107_134, w107_137, w107_140, w107_143, w107_146, w107_149, w107_152, w107_154, ks_0, kP, b4, i0, h1, nI_add, ↓reduceIte, Option.toList_some, Option.toList_none, List.cons_append, List.nil_append]
      exact ih _
    · by_cases h3 : (n (6 + g)).testBit a = true
      · by_cases h4 : (n (6 + g)).testBit b = true
        · have hp : paN c n g s a b = beN c (andn (n (6 + g)) (n 19)) (andn s (n 19)) a b := by unfold paN; simp [h2, h3, h4]
          rw [hp] at ih
          by_cases h5 : beN c (andn (n (6 + g)) (n 19)) (andn s (n 19)) a b = true
          · rw [if_pos h5] at ih
            simp only [w107_0, w107_1, w107_4, w107_5, w107_8, w107_11, w107_12, w107_15, w107_16, w107_19, w107_22, w107_24, w107_25, w107_26, w107_29, w107_32, w107_33, w107_36, w107_37, w107_38, w107_40, w107_41, w107_45, w107_46, w107_49, w107_52, w107_55, w107_56, w107_60, w107_61, w107_64, w107_67, w107_70, w107_72, w107_74, w107_77, w107_78, w107_80, w107_81, w107_82, w107_83, w107_86, w107_87, w107_89, w107_90, w107_91, w107_92, w107_95, w107_96, w107_99, w107_100, w107_102, w107_104, w107_107, w107_108, w107_110, w107_112, w107_113, w107_116, w107_117, w107_120, w107_121, w107_122, w107_125, w107_128, w107_129, w107_130, w107_131, w107_134, w107_137, w107_140, w107_143, w107_146, w107_149, w107_152, w107_154, ks_0, ks_24, kP, b4, b6, i0, j3, h1, ea, h2, nI_bit g31 (show a < 32 by omega), nI_bit g31 (show b < 32 by omega), h3, h4, nI_ne1, c_openTo hN w2 hg, nI_andn, c_isBetrayed hB hC hw ha (show b < c 0 by omega), h5, nI_add, Nat.add_assoc, ↓reduceIte, Option.toList_some, Option.toList_none, List.cons_append, List.nil_append]
            exact ih _
          · rw [if_neg h5] at ih
            simp only [w107_0, w107_1, w107_4, w107_5, w107_8, w107_11, w107_12, w107_15, w107_16, w107_19, w107_22, w107_24, w107_25, w107_26, w107_29, w107_32, w107_33, w107_36, w107_37, w107_38, w107_40, w107_41, w107_45, w107_46, w107_49, w107_52, w107_55, w107_56, w107_60, w107_61, w107_64, w107_67, w107_70, w107_72, w107_74, w107_77, w107_78, w107_80, w107_81, w107_82, w107_83, w107_86, w107_87, w107_89, w107_90, w107_91, w107_92, w107_95, w107_96, w107_99, w107_100, w107_102, w107_104, w107_107, w107_108, w107_110, w107_112, w107_113, w107_116, w107_117, w107_120, w107_121, w107_122, w107_125, w107_128, w107_129, w107_130, w107_131, w107_134, w107_137, w107_140, w107_143, w107_146, w107_149, w107_152, w107_154, ks_0, ks_24, kP, b4, b6, i0, j3, h1, ea, h2, nI_bit g31 (show a < 32 by omega), nI_bit g31 (show b < 32 by omega), h3, h4, nI_ne1, c_openTo hN w2 hg, nI_andn, c_isBetrayed hB hC hw ha (show b < c 0 by omega), h5, nI_add, Nat.add_assoc, ↓reduceIte, Option.toList_some, Option.toList_none, List.cons_append, List.nil_append]
            exact ih _
        · have hp : paN c n g s a b = false := by unfold paN; simp [h4]
          rw [if_neg (by rw [hp]; decide)] at ih
          simp only [w107_0, w107_1, w107_4, w107_5, w107_8, w107_11, w107_12, w107_15, w107_16, w107_19, w107_22, w107_24, w107_25, w107_26, w107_29, w107_32, w107_33, w107_36, w107_37, w107_38, w107_40, w107_41, w107_45, w107_46, w107_49, w107_52, w107_55, w107_56, w107_60, w107_61, w107_64, w107_67, w107_70, w107_72, w107_74, w107_77, w107_78, w107_80, w107_81, w107_82, w107_83, w107_86, w107_87, w107_89, w107_90, w107_91, w107_92, w107_95, w107_96, w107_99, w107_100, w107_102, w107_104, w107_107, w107_108, w107_110, w107_112, w107_113, w107_116, w107_117, w107_120, w107_121, w107_122, w107_125, w107_128, w107_129, w107_130, w107_131, w107_134, w107_137, w107_140, w107_143, w107_146, w107_149, w107_152, w107_154, ks_0, kP, b4, i0, h1, ea, h2, nI_bit g31 (show a < 32 by omega), nI_bit g31 (show b < 32 by omega), h3, h4, nI_ne1, nI_add, ↓reduceIte, Option.toList_some, Option.toList_none, List.cons_append, List.nil_append, Bool.false_eq_true]
          exact ih _
      · have hp : paN c n g s a b = false := by unfold paN; simp [h3]
        rw [if_neg (by rw [hp]; decide)] at ih
        simp only [w107_0, w107_1, w107_4, w107_5, w107_8, w107_11, w107_12, w107_15, w107_16, w107_19, w107_22, w107_24, w107_25, w107_26, w107_29, w107_32, w107_33, w107_36, w107_37, w107_38, w107_40, w107_41, w107_45, w107_46, w107_49, w107_52, w107_55, w107_56, w107_60, w107_61, w107_64, w107_67, w107_70, w107_72, w107_74, w107_77, w107_78, w107_80, w107_81, w107_82, w107_83, w107_86, w107_87, w107_89, w107_90, w107_91, w107_92, w107_95, w107_96, w107_99, w107_100, w107_102, w107_104, w107_107, w107_108, w107_110, w107_112, w107_113, w107_116, w107_117, w107_120, w107_121, w107_122, w107_125, w107_128, w107_129, w107_130, w107_131, w107_134, w107_137, w107_140, w107_143, w107_146, w107_149, w107_152, w107_154, ks_0, kP, b4, i0, h1, ea, h2, nI_bit g31 (show a < 32 by omega), h3, nI_add, ↓reduceIte, Option.toList_some, Option.toList_none, List.cons_append, List.nil_append, Bool.false_eq_true]
        exact ih _
theorem l_cPoA {g s : Nat} (hB : BR σ P D) (hC : CC σ P c) (hN : CN σ 24 (c 2) n) (hw : WC c) (hwn : WN c n) (hg : g < c 2) :
    ∀ (f a : Nat) (v6 v7 : Option Value), a + f = c 0 → Wq none 107 43 [some (.ref (0 : Nat)), some (.int (nI g)), some (.int (nI s)), some (.int (nI (n (6 + g)))), some (.int (nI (p2N c n g s a))), some (.int (nI a)), v6, v7] [] σ Q = Q (some (.int (nI (p2N c n g s (c 0))))) σ := by
  obtain ⟨b0, b3, b4, b5, b6, b7, b8, b9, b10, b11, b12⟩ := id hB
  obtain ⟨w0, w2, w3, w4, w5, w6, w7, w8, w9⟩ := id hw
  have kP := hC.1.1
  obtain ⟨-, -, ⟨i0, i2, i3, i4⟩, -⟩ := id hC
  intro f
  induction f with
  | zero =>
    intro a v6 v7 ha
    obtain rfl : a = c 0 := by omega
    rw [w107_43]
    simp only [w107_0, w107_1, w107_4, w107_5, w107_8, w107_11, w107_12, w107_15, w107_16, w107_19, w107_22, w107_24, w107_25, w107_26, w107_29, w107_32, w107_33, w107_36, w107_37, w107_38, w107_40, w107_41, w107_45, w107_46, w107_49, w107_52, w107_55, w107_56, w107_60, w107_61, w107_64, w107_67, w107_70, w107_72, w107_74, w107_77, w107_78, w107_80, w107_81, w107_82, w107_83, w107_86, w107_87, w107_89, w107_90, w107_91, w107_92, w107_95, w107_96, w107_99, w107_100, w107_102, w107_104, w107_107, w107_108, w107_110, w107_112, w107_113, w107_116, w107_117, w107_120, w107_121, w107_122, w107_125, w107_128, w107_129, w107_130, w107_131, w107_134, w107_137, w107_140, w107_143, w107_146, w107_149, w107_152, w107_154, ks_0, kP, b4, i0, nI_le (Nat.le_refl (c 0)) (show c 0 < 2 ^ 31 by omega), ↓reduceIte, Option.toList_some, Option.toList_none, List.cons_append, List.nil_append]
  | succ f ih =>
    intro a v6 v7 ha
    have ih := fun v => ih (a + 1) (some (.int (nI (c 0)))) v (by omega)
    have h1 : ¬ nI (c 0) ≤ nI a := nI_ge (by omega) (by omega)
    rw [p2S] at ih
    rw [w107_43]
    simp only [w107_0, w107_1, w107_4, w107_5, w107_8, w107_11, w107_12, w107_15, w107_16, w107_19, w107_22, w107_24, w107_25, w107_26, w107_29, w107_32, w107_33, w107_36, w107_37, w107_38, w107_40, w107_41, w107_45, w107_46, w107_49, w107_52, w107_55, w107_56, w107_60, w107_61, w107_64, w107_67, w107_70, w107_72, w107_74, w107_77, w107_78, w107_80, w107_81, w107_82, w107_83, w107_86, w107_87, w107_89, w107_90, w107_91, w107_92, w107_95, w107_96, w107_99, w107_100, w107_102, w107_104, w107_107, w107_108, w107_110, w107_112, w107_113, w107_116, w107_117, w107_120, w107_121, w107_122, w107_125, w107_128, w107_129, w107_130, w107_131, w107_134, w107_137, w107_140, w107_143, w107_146, w107_149, w107_152, w107_154, ks_0, kP, b4, i0, h1, ↓reduceIte, Option.toList_some, Option.toList_none, List.cons_append, List.nil_append]
    exact l_cPoB hB hC hN hw hwn hg (show a < c 0 by omega) ih (c 0) 0 v7 (by omega)
theorem l_mPoB {g s a r : Nat} (hM : MR σ) (hc : MC σ c) (hn : MN σ n) (hw : WC c) (hwn : WN c n) (hg : g < c 2) (hs : s < 2 ^ 31) (ha : a < c 0) (kk : ∀ τ v6, (∀ a, a ≠ 129 → τ a = σ a) → Wq none 194 24 [some (.ref (118 : Nat)), some (.int (nI g)), some (.int (nI s)), some (.int (nI (r + p1N c n g s a (c 0)))), some (.int (nI (a + 1))), some (.int (nI (c 0))), v6] [] τ Q) :
    ∀ (f b : Nat) (τ : dm_G) (v6 : Option Value), (∀ a, a ≠ 129 → τ a = σ a) → b + f = c 0 → Wq none 194 38 [some (.ref (118 : Nat)), some (.int (nI g)), some (.int (nI s)), some (.int (nI (r + p1N c n g s a b))), some (.int (nI a)), some (.int (nI b)), v6] [] τ Q := by
  obtain ⟨w0, w2, w3, w4, w5, w6, w7, w8, w9⟩ := id hw
  have p8 : 2 ^ c 0 ≤ 2 ^ 8 := Nat.pow_le_pow_right (by decide) w0
  have g31 : n (6 + g) < 2 ^ 31 := by have := (hwn.1 g hg).2.1; omega
  have ho := andn_lt31 hw hwn hg
  have ho' : andn s (n 19) < 2 ^ 31 := andn_lt hs
  intro f
  induction f with
  | zero =>
    intro b τ v6 hτ hb
    obtain rfl : b = c 0 := by omega
    have hc2 : MC τ c := MC_of (hτ 119 (by omega)) hc
    have m02 : τ 118 0 = (.ref (119 : Nat)) := (MR_of (hτ 118 (by omega)) hM).1
    rw [w194_38]
    simp only [w194_0, w194_1, w194_2, w194_5, w194_8, w194_9, w194_10, w194_13, w194_16, w194_18, w194_19, w194_20, w194_21, w194_22, w194_26, w194_27, w194_30, w194_31, w194_32, w194_35, w194_36, w194_40, w194_41, w194_44, w194_45, w194_46, w194_49, w194_51, w194_53, w194_56, w194_57, w194_60, w194_62, w194_63, w194_64, w194_65, w194_67, w194_70, w194_73, w194_74, w194_77, w194_79, w194_80, w194_81, w194_82, w194_84, w194_87, w194_90, w194_91, w194_92, w194_93, w194_96, w194_98, w194_100, w194_103, w194_105, w194_106, w194_108, w194_110, w194_113, w194_114, w194_115, w194_116, w194_119, w194_121, w194_122, w194_123, w194_124, w194_125, w194_127, w194_129, w194_132, w194_134, w194_137, w194_138, w194_141, w194_142, w194_143, w194_144, w194_147, w194_150, w194_153, w194_156, w194_157, ks_118, m02, kt_119, in_nI (show 0 < kl 119 by rw [kl_119]; omega) (by rw [kl_119]; omega), nI_clamp (show 0 < 2 ^ 31 by omega), hc2 0 (by omega), nI_le (Nat.le_refl (c 0)) (show c 0 < 2 ^ 31 by omega), nI_add, ↓reduceIte, Option.toList_some, Option.toList_none, List.cons_append, List.nil_append]
    exact kk τ v6 hτ
  | succ f ih =>
    intro b τ v6 hτ hb
    have ih := fun τ v h => ih (b + 1) τ v h (by omega)
    have hM2 : MR τ := MR_of (hτ 118 (by omega)) hM
    have hc2 : MC τ c := MC_of (hτ 119 (by omega)) hc
    have hn2 : MN τ n := MN_of (hτ 121 (by omega)) hn
    have m02 : τ 118 0 = (.ref (119 : Nat)) := hM2.1
    have m22 : τ 118 2 = (.ref (121 : Nat)) := hM2.2.2.1
    have h1 : ¬ nI (c 0) ≤ nI b := nI_ge (by omega) (by omega)
    have ea : nI a = nI b ↔ a = b := nI_eq (by omega) (by omega)
    have z0 : ∀ x, nI x + nI 0 = nI x := fun x => by rw [nI_add, Nat.add_zero]
    rw [p1S] at ih
    rw [w194_38]
    by_cases h2 : a = b
    · have hp : paN c n g s a b = false := by unfold paN; simp [h2]
      rw [if_neg (by rw [hp]; decide)] at ih
      subst h2
      simp only [w194_0, w194_1, w194_2, w194_5, w194_8, w194_9, w194_10, w194_13, w194_16, w194_18, w194_19, w194_20, w194_21, w194_22, w194_26, w194_27, w194_30, w194_31, w194_32, w194_35, w194_36, w194_40, w194_41, w194_44, w194_45, w194_46, w194_49, w194_51, w194_53, w194_56, w194_57, w194_60, w194_62, w194_63, w194_64, w194_65, w194_67, w194_70, w194_73, w194_74, w194_77, w194_79, w194_80, w194_81, w194_82, w194_84, w194_87, w194_90, w194_91, w194_92, w194_93, w194_96, w194_98, w194_100, w194_103, w194_105, w194_106, w194_108, w194_110, w194_113, w194_114, w194_115, w194_116, w194_119, w194_121, w194_122, w194_123, w194_124, w194_125, w194_127, w194_129, w194_132, w194_134, w194_137, w194_138, w194_141, w194_142, w194_143, w194_144, w194_147, w194_150, w194_153, w194_156, w194_157, ks_118, m02, kt_119, in_nI (show 0 < kl 119 by rw [kl_119]; omega) (by rw [kl_119]; omega), nI_clamp (show 0 < 2 ^ 31 by omega), hc2 0 (by omega), h1, nI_add, ↓reduceIte, Option.toList_some, Option.toList_none, List.cons_append, List.nil_append]
      exact ih _ _ hτ
    · by_cases h3 : (n (6 + g)).testBit a = true
      · by_cases h4 : (n (6 + g)).testBit b = true
        · have hp : paN c n g s a b = beN c (andn (n (6 + g)) (n 19)) (andn s (n 19)) a b := by unfold paN; simp [h2, h3, h4]
          rw [hp] at ih
          cases e1 : sbN c a b (andn (n (6 + g)) (n 19)) with
          | none =>
            have hl := lay_fn hw ha (show b < c 0 by omega) e1
            rw [if_neg (by simp [beN, e1])] at ih
            simp only [w194_0, w194_1, w194_2, w194_5, w194_8, w194_9, w194_10, w194_13, w194_16, w194_18, w194_19, w194_20, w194_21, w194_22, w194_26, w194_27, w194_30, w194_31, w194_32, w194_35, w194_36, w194_40, w194_41, w194_44, w194_45, w194_46, w194_49, w194_51, w194_53, w194_56, w194_57, w194_60, w194_62, w194_63, w194_64, w194_65, w194_67, w194_70, w194_73, w194_74, w194_77, w194_79, w194_80, w194_81, w194_82, w194_84, w194_87, w194_90, w194_91, w194_92, w194_93, w194_96, w194_98, w194_100, w194_103, w194_105, w194_106, w194_108, w194_110, w194_113, w194_114, w194_115, w194_116, w194_119, w194_121, w194_122, w194_123, w194_124, w194_125, w194_127, w194_129, w194_132, w194_134, w194_137, w194_138, w194_141, w194_142, w194_143, w194_144, w194_147, w194_150, w194_153, w194_156, w194_157, ks_118, m02, m22, kt_119, kt_121, in_nI (show 0 < kl 119 by rw [kl_119]; omega) (by rw [kl_119]; omega), nI_clamp (show 0 < 2 ^ 31 by omega), hc2 0 (by omega), in_nI (show 6 + g < kl 121 by rw [kl_121]; omega) (by rw [kl_121]; omega), nI_clamp (show 6 + g < 2 ^ 31 by omega), hn2 (6 + g) (by omega), c_has g31 (show a < 32 by omega), c_has g31 (show b < 32 by omega), h1, ea, h2, h3, h4, nI_ne1, nI_add 6 g, c_open hM2 hn2 (show g < 6 by omega), c_length hM2 hc2 hw ho (show b < 2 ^ 31 by omega) (show a < 8 by omega), hl, (by decide : nI 100000000 ≤ nI 100000000), z0, nI_add b 1, ↓reduceIte, Option.toList_some, Option.toList_none, List.cons_append, List.nil_append]
            exact ih _ _ (fun a z => (aset_cell z).trans (hτ a z))
          | some d =>
            obtain ⟨d1, d2, d3⟩ := lay_fs hw ha (show b < c 0 by omega) e1
            have hd := sbN_lt e1
            have m22' : aset τ (lay c (andn (n (6 + g)) (n 19)) b) 118 2 = (.ref (121 : Nat)) := (MR_a hM2).2.2.1
            have hM2' := MR_a (aw := lay c (andn (n (6 + g)) (n 19)) b) hM2
            have hc2' := MC_a (aw := lay c (andn (n (6 + g)) (n 19)) b) hc2
            have hn2' := MN_a (aw := lay c (andn (n (6 + g)) (n 19)) b) hn2
            cases e2 : sbN c a b (andn s (n 19)) with
            | none =>
              have hl := lay_fn hw ha (show b < c 0 by omega) e2
              have hgt : ¬ nI 100000000 ≤ nI d := d3
              rw [if_pos (by unfold beN; rw [e1]; dsimp only; rw [e2])] at ih
              simp only [w194_0, w194_1, w194_2, w194_5, w194_8, w194_9, w194_10, w194_13, w194_16, w194_18, w194_19, w194_20, w194_21, w194_22, w194_26, w194_27, w194_30, w194_31, w194_32, w194_35, w194_36, w194_40, w194_41, w194_44, w194_45, w194_46, w194_49, w194_51, w194_53, w194_56, w194_57, w194_60, w194_62, w194_63, w194_64, w194_65, w194_67, w194_70, w194_73, w194_74, w194_77, w194_79, w194_80, w194_81, w194_82, w194_84, w194_87, w194_90, w194_91, w194_92, w194_93, w194_96, w194_98, w194_100, w194_103, w194_105, w194_106, w194_108, w194_110, w194_113, w194_114, w194_115, w194_116, w194_119, w194_121, w194_122, w194_123, w194_124, w194_125, w194_127, w194_129, w194_132, w194_134, w194_137, w194_138, w194_141, w194_142, w194_143, w194_144, w194_147, w194_150, w194_153, w194_156, w194_157, ks_118, m02, m22, m22', kt_119, kt_121, in_nI (show 0 < kl 119 by rw [kl_119]; omega) (by rw [kl_119]; omega), nI_clamp (show 0 < 2 ^ 31 by omega), hc2 0 (by omega), in_nI (show 6 + g < kl 121 by rw [kl_121]; omega) (by rw [kl_121]; omega), nI_clamp (show 6 + g < 2 ^ 31 by omega), hn2 (6 + g) (by omega), in_nI (show 19 < kl 121 by rw [kl_121]; omega) (by rw [kl_121]; omega), nI_clamp (show 19 < 2 ^ 31 by omega), hn2' 19 (by omega), c_has g31 (show a < 32 by omega), c_has g31 (show b < 32 by omega), h1, ea, h2, h3, h4, nI_ne1, nI_add 6 g, c_open hM2 hn2 (show g < 6 by omega), c_length hM2 hc2 hw ho (show b < 2 ^ 31 by omega) (show a < 8 by omega), d1, d3, nI_andn, c_length hM2' hc2' hw ho' (show b < 2 ^ 31 by omega) (show a < 8 by omega), hl, nI_add b 1, nI_add (r + p1N c n g s a b) 1, Nat.add_assoc r, ↓reduceIte, Option.toList_some, Option.toList_none, List.cons_append, List.nil_append]
              exact ih _ _ (fun a z => ((aset_cell z).trans (aset_cell z)).trans (hτ a z))
            | some d' =>
              obtain ⟨x1, x2, x3⟩ := lay_fs hw ha (show b < c 0 by omega) e2
              have hd' := sbN_lt e2
              by_cases hl : d < d'
              · have hl2 : ¬ nI d' ≤ nI d := nI_ge hl (by omega)
                rw [if_pos (by unfold beN; rw [e1]; dsimp only; rw [e2]; simp [hl])] at ih
                simp only [w194_0, w194_1, w194_2, w194_5, w194_8, w194_9, w194_10, w194_13, w194_16, w194_18, w194_19, w194_20, w194_21, w194_22, w194_26, w194_27, w194_30, w194_31, w194_32, w194_35, w194_36, w194_40, w194_41, w194_44, w194_45, w194_46, w194_49, w194_51, w194_53, w194_56, w194_57, w194_60, w194_62, w194_63, w194_64, w194_65, w194_67, w194_70, w194_73, w194_74, w194_77, w194_79, w194_80, w194_81, w194_82, w194_84, w194_87, w194_90, w194_91, w194_92, w194_93, w194_96, w194_98, w194_100, w194_103, w194_105, w194_106, w194_108, w194_110, w194_113, w194_114, w194_115, w194_116, w194_119, w194_121, w194_122, w194_123, w194_124, w194_125, w194_127, w194_129, w194_132, w194_134, w194_137, w194_138, w194_141, w194_142, w194_143, w194_144, w194_147, w194_150, w194_153, w194_156, w194_157, ks_118, m02, m22, m22', kt_119, kt_121, in_nI (show 0 < kl 119 by rw [kl_119]; omega) (by rw [kl_119]; omega), nI_clamp (show 0 < 2 ^ 31 by omega), hc2 0 (by omega), in_nI (show 6 + g < kl 121 by rw [kl_121]; omega) (by rw [kl_121]; omega), nI_clamp (show 6 + g < 2 ^ 31 by omega), hn2 (6 + g) (by omega), in_nI (show 19 < kl 121 by rw [kl_121]; omega) (by rw [kl_121]; omega), nI_clamp (show 19 < 2 ^ 31 by omega), hn2' 19 (by omega), c_has g31 (show a < 32 by omega), c_has g31 (show b < 32 by omega), h1, ea, h2, h3, h4, nI_ne1, nI_add 6 g, c_open hM2 hn2 (show g < 6 by omega), c_length hM2 hc2 hw ho (show b < 2 ^ 31 by omega) (show a < 8 by omega), d1, d3, nI_andn, c_length hM2' hc2' hw ho' (show b < 2 ^ 31 by omega) (show a < 8 by omega), x1, hl2, nI_add b 1, nI_add (r + p1N c n g s a b) 1, Nat.add_assoc r, ↓reduceIte, Option.toList_some, Option.toList_none, List.cons_append, List.nil_append]
                exact ih _ _ (fun a z => ((aset_cell z).trans (aset_cell z)).trans (hτ a z))
              · have hl2 : nI d' ≤ nI d := nI_le (by omega) (by omega)
                rw [if_neg (by unfold beN; rw [e1]; dsimp only; rw [e2]; simp [hl])] at ih
                simp only [w194_0, w194_1, w194_2, w194_5, w194_8, w194_9, w194_10, w194_13, w194_16, w194_18, w194_19, w194_20, w194_21, w194_22, w194_26, w194_27, w194_30, w194_31, w194_32, w194_35, w194_36, w194_40, w194_41, w194_44, w194_45, w194_46, w194_49, w194_51, w194_53, w194_56, w194_57, w194_60, w194_62, w194_63, w194_64, w194_65, w194_67, w194_70, w194_73, w194_74, w194_77, w194_79, w194_80, w194_81, w194_82, w194_84, w194_87, w194_90, w194_91, w194_92, w194_93, w194_96, w194_98, w194_100, w194_103, w194_105, w194_106, w194_108, w194_110, w194_113, w194_114, w194_115, w194_116, w194_119, w194_121, w194_122, w194_123, w194_124, w194_125, w194_127, w194_129, w194_132, w194_134, w194_137, w194_138, w194_141, w194_142, w194_143, w194_144, w194_147, w194_150, w194_153, w194_156, w194_157, ks_118, m02, m22, m22', kt_119, kt_121, in_nI (show 0 < kl 119 by rw [kl_119]; omega) (by rw [kl_119]; omega), nI_clamp (show 0 < 2 ^ 31 by omega), hc2 0 (by omega), in_nI (show 6 + g < kl 121 by rw [kl_121]; omega) (by rw [kl_121]; omega), nI_clamp (show 6 + g < 2 ^ 31 by omega), hn2 (6 + g) (by omega), in_nI (show 19 < kl 121 by rw [kl_121]; omega) (by rw [kl_121]; omega), nI_clamp (show 19 < 2 ^ 31 by omega), hn2' 19 (by omega), c_has g31 (show a < 32 by omega), c_has g31 (show b < 32 by omega), h1, ea, h2, h3, h4, nI_ne1, nI_add 6 g, c_open hM2 hn2 (show g < 6 by omega), c_length hM2 hc2 hw ho (show b < 2 ^ 31 by omega) (show a < 8 by omega), d1, d3, nI_andn, c_length hM2' hc2' hw ho' (show b < 2 ^ 31 by omega) (show a < 8 by omega), x1, hl2, nI_add b 1, z0, ↓reduceIte, Option.toList_some, Option.toList_none, List.cons_append, List.nil_append]
                exact ih _ _ (fun a z => ((aset_cell z).trans (aset_cell z)).trans (hτ a z))
        · have hp : paN c n g s a b = false := by unfold paN; simp [h4]
          rw [if_neg (by rw [hp]; decide)] at ih
          simp only [w194_0, w194_1, w194_2, w194_5, w194_8, w194_9, w194_10, w194_13, w194_16, w194_18, w194_19, w194_20, w194_21, w194_22, w194_26, w194_27, w194_30, w194_31, w194_32, w194_35, w194_36, w194_40, w194_41, w194_44, w194_45, w194_46, w194_49, w194_51, w194_53, w194_56, w194_57, w194_60, w194_62, w194_63, w194_64, w194_65, w194_67, w194_70, w194_73, w194_74, w194_77, w194_79, w194_80, w194_81, w194_82, w194_84, w194_87, w194_90, w194_91, w194_92, w194_93, w194_96, w194_98, w194_100, w194_103, w194_105, w194_106, w194_108, w194_110, w194_113, w194_114, w194_115, w194_116, w194_119, w194_121, w194_122, w194_123, w194_124, w194_125, w194_127, w194_129, w194_132, w194_134, w194_137, w194_138, w194_141, w194_142, w194_143, w194_144, w194_147, w194_150, w194_153, w194_156, w194_157, ks_118, m02, m22, kt_119, kt_121, in_nI (show 0 < kl 119 by rw [kl_119]; omega) (by rw [kl_119]; omega), nI_clamp (show 0 < 2 ^ 31 by omega), hc2 0 (by omega), in_nI (show 6 + g < kl 121 by rw [kl_121]; omega) (by rw [kl_121]; omega), nI_clamp (show 6 + g < 2 ^ 31 by omega), hn2 (6 + g) (by omega), c_has g31 (show a < 32 by omega), c_has g31 (show b < 32 by omega), h1, ea, h2, h3, h4, nI_ne1, nI_add, ↓reduceIte, Option.toList_some, Option.toList_none, List.cons_append, List.nil_append, Bool.false_eq_true]
          exact ih _ _ hτ
      · have hp : paN c n g s a b = false := by unfold paN; simp [h3]
        rw [if_neg (by rw [hp]; decide)] at ih
        simp only [w194_0, w194_1, w194_2, w194_5, w194_8, w194_9, w194_10, w194_13, w194_16, w194_18, w194_19, w194_20, w194_21, w194_22, w194_26, w194_27, w194_30, w194_31, w194_32, w194_35, w194_36, w194_40, w194_41, w194_44, w194_45, w194_46, w194_49, w194_51, w194_53, w194_56, w194_57, w194_60, w194_62, w194_63, w194_64, w194_65, w194_67, w194_70, w194_73, w194_74, w194_77, w194_79, w194_80, w194_81, w194_82, w194_84, w194_87, w194_90, w194_91, w194_92, w194_93, w194_96, w194_98, w194_100, w194_103, w194_105, w194_106, w194_108, w194_110, w194_113, w194_114, w194_115, w194_116, w194_119, w194_121, w194_122, w194_123, w194_124, w194_125, w194_127, w194_129, w194_132, w194_134, w194_137, w194_138, w194_141, w194_142, w194_143, w194_144, w194_147, w194_150, w194_153, w194_156, w194_157, ks_118, m02, m22, kt_119, kt_121, in_nI (show 0 < kl 119 by rw [kl_119]; omega) (by rw [kl_119]; omega), nI_clamp (show 0 < 2 ^ 31 by omega), hc2 0 (by omega), in_nI (show 6 + g < kl 121 by rw [kl_121]; omega) (by rw [kl_121]; omega), nI_clamp (show 6 + g < 2 ^ 31 by omega), hn2 (6 + g) (by omega), c_has g31 (show a < 32 by omega), h1, ea, h2, h3, nI_ne1, nI_add, ↓reduceIte, Option.toList_some, Option.toList_none, List.cons_append, List.nil_append, Bool.false_eq_true]
        exact ih _ _ hτ
theorem l_mPoA {g s : Nat} (hM : MR σ) (hc : MC σ c) (hn : MN σ n) (hw : WC c) (hwn : WN c n) (hg : g < c 2) (hs : s < 2 ^ 31) (hq : ∀ τ, (∀ a, a ≠ 129 → τ a = σ a) → Q (some (.int (nI (p2N c n g s (c 0))))) τ) :
    ∀ (f a : Nat) (τ : dm_G) (v5 v6 : Option Value), (∀ a, a ≠ 129 → τ a = σ a) → a + f = c 0 → Wq none 194 24 [some (.ref (118 : Nat)), some (.int (nI g)), some (.int (nI s)), some (.int (nI (p2N c n g s a))), some (.int (nI a)), v5, v6] [] τ Q := by
  obtain ⟨w0, w2, w3, w4, w5, w6, w7, w8, w9⟩ := id hw
  intro f
  induction f with
  | zero =>
    intro a τ v5 v6 hτ ha
    obtain rfl : a = c 0 := by omega
    have hc2 : MC τ c := MC_of (hτ 119 (by omega)) hc
    have m02 : τ 118 0 = (.ref (119 : Nat)) := (MR_of (hτ 118 (by omega)) hM).1
    rw [w194_24]
    simp only [w194_0, w194_1, w194_2, w194_5, w194_8, w194_9, w194_10, w194_13, w194_16, w194_18, w194_19, w194_20, w194_21, w194_22, w194_26, w194_27, w194_30, w194_31, w194_32, w194_35, w194_36, w194_40, w194_41, w194_44, w194_45, w194_46, w194_49, w194_51, w194_53, w194_56, w194_57, w194_60, w194_62, w194_63, w194_64, w194_65, w194_67, w194_70, w194_73, w194_74, w194_77, w194_79, w194_80, w194_81, w194_82, w194_84, w194_87, w194_90, w194_91, w194_92, w194_93, w194_96, w194_98, w194_100, w194_103, w194_105, w194_106, w194_108, w194_110, w194_113, w194_114, w194_115, w194_116, w194_119, w194_121, w194_122, w194_123, w194_124, w194_125, w194_127, w194_129, w194_132, w194_134, w194_137, w194_138, w194_141, w194_142, w194_143, w194_144, w194_147, w194_150, w194_153, w194_156, w194_157, ks_118, m02, kt_119, in_nI (show 0 < kl 119 by rw [kl_119]; omega) (by rw [kl_119]; omega), nI_clamp (show 0 < 2 ^ 31 by omega), hc2 0 (by omega), nI_le (Nat.le_refl (c 0)) (show c 0 < 2 ^ 31 by omega), ↓reduceIte, Option.toList_some, Option.toList_none, List.cons_append, List.nil_append]
    exact hq τ hτ
  | succ f ih =>
    intro a τ v5 v6 hτ ha
    have ih := fun τ v h => ih (a + 1) τ (some (.int (nI (c 0)))) v h (by omega)
    have hc2 : MC τ c := MC_of (hτ 119 (by omega)) hc
    have m02 : τ 118 0 = (.ref (119 : Nat)) := (MR_of (hτ 118 (by omega)) hM).1
    have h1 : ¬ nI (c 0) ≤ nI a := nI_ge (by omega) (by omega)
    rw [p2S] at ih
    rw [w194_24]
    simp only [w194_0, w194_1, w194_2, w194_5, w194_8, w194_9, w194_10, w194_13, w194_16, w194_18, w194_19, w194_20, w194_21, w194_22, w194_26, w194_27, w194_30, w194_31, w194_32, w194_35, w194_36, w194_40, w194_41, w194_44, w194_45, w194_46, w194_49, w194_51, w194_53, w194_56, w194_57, w194_60, w194_62, w194_63, w194_64, w194_65, w194_67, w194_70, w194_73, w194_74, w194_77, w194_79, w194_80, w194_81, w194_82, w194_84, w194_87, w194_90, w194_91, w194_92, w194_93, w194_96, w194_98, w194_100, w194_103, w194_105, w194_106, w194_108, w194_110, w194_113, w194_114, w194_115, w194_116, w194_119, w194_121, w194_122, w194_123, w194_124, w194_125, w194_127, w194_129, w194_132, w194_134, w194_137, w194_138, w194_141, w194_142, w194_143, w194_144, w194_147, w194_150, w194_153, w194_156, w194_157, ks_118, m02, kt_119, in_nI (show 0 < kl 119 by rw [kl_119]; omega) (by rw [kl_119]; omega), nI_clamp (show 0 < 2 ^ 31 by omega), hc2 0 (by omega), h1, ↓reduceIte, Option.toList_some, Option.toList_none, List.cons_append, List.nil_append]
    exact l_mPoB hM hc hn hw hwn hg hs (show a < c 0 by omega) ih (c 0) 0 τ v6 hτ (by omega)
theorem inv_129 {τ : dm_G} (hI : Inv σ) (h : ∀ a, a ≠ 129 → τ a = σ a) : Inv τ := inv_sc hI (fun a b z => by
  unfold scC scM at z
  rw [h a (by omega)])
theorem set_cs (hw : WC c) (x : Int32) : (∃ s, s < 2 ^ c 0 ∧ x = nI s) ∨ ¬ ∃ s, s < 2 ^ c 0 ∧ x = nI s := Classical.em _
theorem pr_pose (x y : Int32) (hI : Inv σ) : Pr Inv 107 194 [.int x, .int y] σ := by
  obtain ⟨c, n, k, p, q, im, h, hs, ht, m, bg, bx, L, tx, f, s, hWA, hCA, hMA⟩ := id hI; obtain ⟨hw, hwn, ⟨hk16, hkp⟩, ⟨hq4, hqi⟩, ⟨hh9, hhs, hht⟩, ⟨hm15, hmb⟩, ⟨hL240, htx⟩, hs31⟩ := id hWA; obtain ⟨⟨P, D, hPD, hB, hC, hD⟩, hN, hPa, hIm, hHe, hBk, hTx, hF, hS, hSc⟩ := id hCA; obtain ⟨hM, hc, hn, hmP, hmI, hmH, hmB, hmT, hmF, hmS⟩ := id hMA
  obtain ⟨b0, b3, b4, b5, b6, b7, b8, b9, b10, b11, b12⟩ := id hB
  obtain ⟨w0, w2, w3, w4, w5, w6, w7, w8, w9⟩ := id hw
  obtain ⟨m0, m1, m2, m3, m5, m6, m8, m11, m12, m14, m22, m23, m24, m25, m29, m30, m31, m32⟩ := id hM
  obtain ⟨⟨kP, ⟨t1, l1⟩, ⟨t2, l2⟩, ⟨t3, l3⟩, ⟨t4, l4⟩, ⟨t5, l5⟩, ⟨t6, l6⟩, ⟨t7, l7⟩, ⟨t8, l8⟩, ⟨t9, l9⟩⟩, ⟨r1, r2, r3, r4, r5, r6, r7, r8, r9⟩, ⟨i0, i2, i3, i4⟩, f1, f2, f3, f4, f5, f6, f7⟩ := id hC
  obtain ⟨⟨kS, ⟨u1, v1⟩, ⟨u2, v2⟩, ⟨u3, v3⟩⟩, ⟨q0, q1, q2⟩, ⟨j3, j4, j5, j6⟩, jf⟩ := id hN
  have p8 : 2 ^ c 0 ≤ 2 ^ 8 := Nat.pow_le_pow_right (by decide) w0
  rcases ix_cs x (show c 2 < 2 ^ 31 by omega) with ⟨g, hg, rfl⟩ | ⟨hx, hx2⟩
  · rcases set_cs hw y with ⟨s, hs, rfl⟩ | hy
    · refine pr_ex (Er_ex ?_)
      show Wq none 107 0 [some (.ref (0 : Nat)), some (.int (nI g)), some (.int (nI s)), none, none, none, none, none] [] σ _
      simp only [w107_0, w107_1, w107_4, w107_5, w107_8, w107_11, w107_12, w107_15, w107_16, w107_19, w107_22, w107_24, w107_25, w107_26, w107_29, w107_32, w107_33, w107_36, w107_37, w107_38, w107_40, w107_41, w107_45, w107_46, w107_49, w107_52, w107_55, w107_56, w107_60, w107_61, w107_64, w107_67, w107_70, w107_72, w107_74, w107_77, w107_78, w107_80, w107_81, w107_82, w107_83, w107_86, w107_87, w107_89, w107_90, w107_91, w107_92, w107_95, w107_96, w107_99, w107_100, w107_102, w107_104, w107_107, w107_108, w107_110, w107_112, w107_113, w107_116, w107_117, w107_120, w107_121, w107_122, w107_125, w107_128, w107_129, w107_130, w107_131, w107_134, w107_137, w107_140, w107_143, w107_146, w107_149, w107_152, w107_154, ks_0, ks_24, kP, b4, b6, q1, c_hasGuide hC hg hw, c_hasAll hC hw hs, nI_ne1, c_at u2 (show g < kl (24 + 2) by rw [v2]; omega) (by rw [v2]; omega), (jf g hg).2.1, ↓reduceIte, Option.toList_some, Option.toList_none, List.cons_append, List.nil_append]
      have h1 := fun Q => l_cPoA (Q := Q) (s := s) hB hC hN hw hwn hg (c 0) 0 none none (by omega)
      rw [show p2N c n g s 0 = 0 from rfl] at h1
      rw [h1]
      refine ⟨_, rfl, Er_ex ?_⟩
      show Wq none 194 0 [some (.ref (118 : Nat)), some (.int (nI g)), some (.int (nI s)), none, none, none, none] [] σ _
      simp only [w194_0, w194_1, w194_2, w194_5, w194_8, w194_9, w194_10, w194_13, w194_16, w194_18, w194_19, w194_20, w194_21, w194_22, w194_26, w194_27, w194_30, w194_31, w194_32, w194_35, w194_36, w194_40, w194_41, w194_44, w194_45, w194_46, w194_49, w194_51, w194_53, w194_56, w194_57, w194_60, w194_62, w194_63, w194_64, w194_65, w194_67, w194_70, w194_73, w194_74, w194_77, w194_79, w194_80, w194_81, w194_82, w194_84, w194_87, w194_90, w194_91, w194_92, w194_93, w194_96, w194_98, w194_100, w194_103, w194_105, w194_106, w194_108, w194_110, w194_113, w194_114, w194_115, w194_116, w194_119, w194_121, w194_122, w194_123, w194_124, w194_125, w194_127, w194_129, w194_132, w194_134, w194_137, w194_138, w194_141, w194_142, w194_143, w194_144, w194_147, w194_150, w194_153, w194_156, w194_157, ks_118, c_isGuide (x := nI g) hM hc hw ⟨g, hg, rfl⟩, c_isSet (x := nI s) hM hc hw ⟨s, hs, rfl⟩, nI_ne1, ↓reduceIte, Option.toList_some, Option.toList_none, List.cons_append, List.nil_append]
      exact l_mPoA hM hc hn hw hwn hg (show s < 2 ^ 31 by omega) (fun τ hτ => ⟨rfl, inv_129 hI hτ⟩) (c 0) 0 σ none none (fun a _ => rfl) (by omega)
    · refine pr_of (v := -1000000001) (σ1 := σ) (σ2 := σ) (fun Q => Cq_of (Er_of ?_)) (fun Q => Cq_of (Er_of ?_)) hI
      · show Wq none 107 0 [some (.ref (0 : Nat)), some (.int (nI g)), some (.int y), none, none, none, none, none] [] σ _
        simp only [w107_0, w107_1, w107_4, w107_5, w107_8, w107_11, w107_12, w107_15, w107_16, w107_19, w107_22, w107_24, w107_25, w107_26, w107_29, w107_32, w107_33, w107_36, w107_37, w107_38, w107_40, w107_41, w107_45, w107_46, w107_49, w107_52, w107_55, w107_56, w107_60, w107_61, w107_64, w107_67, w107_70, w107_72, w107_74, w107_77, w107_78, w107_80, w107_81, w107_82, w107_83, w107_86, w107_87, w107_89, w107_90, w107_91, w107_92, w107_95, w107_96, w107_99, w107_100, w107_102, w107_104, w107_107, w107_108, w107_110, w107_112, w107_113, w107_116, w107_117, w107_120, w107_121, w107_122, w107_125, w107_128, w107_129, w107_130, w107_131, w107_134, w107_137, w107_140, w107_143, w107_146, w107_149, w107_152, w107_154, ks_0, kP, b4, c_hasGuide hC hg hw, c_hasAll_f hC hw hy, nI_ne1, ↓reduceIte, Option.toList_some, Option.toList_none, List.cons_append, List.nil_append, and_self]
      · show Wq none 194 0 [some (.ref (118 : Nat)), some (.int (nI g)), some (.int y), none, none, none, none] [] σ _
        simp only [w194_0, w194_1, w194_2, w194_5, w194_8, w194_9, w194_10, w194_13, w194_16, w194_18, w194_19, w194_20, w194_21, w194_22, w194_26, w194_27, w194_30, w194_31, w194_32, w194_35, w194_36, w194_40, w194_41, w194_44, w194_45, w194_46, w194_49, w194_51, w194_53, w194_56, w194_57, w194_60, w194_62, w194_63, w194_64, w194_65, w194_67, w194_70, w194_73, w194_74, w194_77, w194_79, w194_80, w194_81, w194_82, w194_84, w194_87, w194_90, w194_91, w194_92, w194_93, w194_96, w194_98, w194_100, w194_103, w194_105, w194_106, w194_108, w194_110, w194_113, w194_114, w194_115, w194_116, w194_119, w194_121, w194_122, w194_123, w194_124, w194_125, w194_127, w194_129, w194_132, w194_134, w194_137, w194_138, w194_141, w194_142, w194_143, w194_144, w194_147, w194_150, w194_153, w194_156, w194_157, ks_118, c_isGuide (x := nI g) hM hc hw ⟨g, hg, rfl⟩, c_isSet_f hM hc hw hy, nI_ne1, ↓reduceIte, Option.toList_some, Option.toList_none, List.cons_append, List.nil_append, and_self]
  · refine pr_of (v := -1000000001) (σ1 := σ) (σ2 := σ) (fun Q => Cq_of (Er_of ?_)) (fun Q => Cq_of (Er_of ?_)) hI
    · show Wq none 107 0 [some (.ref (0 : Nat)), some (.int x), some (.int y), none, none, none, none, none] [] σ _
      simp only [w107_0, w107_1, w107_4, w107_5, w107_8, w107_11, w107_12, w107_15, w107_16, w107_19, w107_22, w107_24, w107_25, w107_26, w107_29, w107_32, w107_33, w107_36, w107_37, w107_38, w107_40, w107_41, w107_45, w107_46, w107_49, w107_52, w107_55, w107_56, w107_60, w107_61, w107_64, w107_67, w107_70, w107_72, w107_74, w107_77, w107_78, w107_80, w107_81, w107_82, w107_83, w107_86, w107_87, w107_89, w107_90, w107_91, w107_92, w107_95, w107_96, w107_99, w107_100, w107_102, w107_104, w107_107, w107_108, w107_110, w107_112, w107_113, w107_116, w107_117, w107_120, w107_121, w107_122, w107_125, w107_128, w107_129, w107_130, w107_131, w107_134, w107_137, w107_140, w107_143, w107_146, w107_149, w107_152, w107_154, ks_0, kP, b4, c_hasGuide_f hC hx, ↓reduceIte, Option.toList_some, Option.toList_none, List.cons_append, List.nil_append, and_self]
    · show Wq none 194 0 [some (.ref (118 : Nat)), some (.int x), some (.int y), none, none, none, none] [] σ _
      simp only [w194_0, w194_1, w194_2, w194_5, w194_8, w194_9, w194_10, w194_13, w194_16, w194_18, w194_19, w194_20, w194_21, w194_22, w194_26, w194_27, w194_30, w194_31, w194_32, w194_35, w194_36, w194_40, w194_41, w194_44, w194_45, w194_46, w194_49, w194_51, w194_53, w194_56, w194_57, w194_60, w194_62, w194_63, w194_64, w194_65, w194_67, w194_70, w194_73, w194_74, w194_77, w194_79, w194_80, w194_81, w194_82, w194_84, w194_87, w194_90, w194_91, w194_92, w194_93, w194_96, w194_98, w194_100, w194_103, w194_105, w194_106, w194_108, w194_110, w194_113, w194_114, w194_115, w194_116, w194_119, w194_121, w194_122, w194_123, w194_124, w194_125, w194_127, w194_129, w194_132, w194_134, w194_137, w194_138, w194_141, w194_142, w194_143, w194_144, w194_147, w194_150, w194_153, w194_156, w194_157, ks_118, c_isGuide_f hM hc hw hx2, ↓reduceIte, Option.toList_some, Option.toList_none, List.cons_append, List.nil_append, and_self]
end PO
