/-! posing as one -/
/-- one who poses is betrayed by the pair -/
def beN (c : Nat → Nat) (o o' a b : Nat) : Bool := match sbN c a b o with
  | none => false
  | some d => match sbN c a b o' with
    | none => true
    | some d' => decide (d < d')
def paN (c n : Nat → Nat) (g s a b : Nat) : Bool := decide (a ≠ b) && (n (6 + g)).testBit a && (n (6 + g)).testBit b && beN c (andn (n (6 + g)) (n 19)) (andn s (n 19)) a b
def p1N (c n : Nat → Nat) (g s a : Nat) : Nat → Nat := fun b => match b with
  | 0 => 0
  | b + 1 => if paN c n g s a b = true then p1N c n g s a b + 1 else p1N c n g s a b
def p2N (c n : Nat → Nat) (g s : Nat) : Nat → Nat := fun a => match a with
  | 0 => 0
  | a + 1 => p2N c n g s a + p1N c n g s a (c 0)
section PO
variable {σ : dm_G} {c n : Nat → Nat} {P D : Nat} {Q : Option Value → dm_G → Prop}
theorem p1S {g s a b : Nat} : p1N c n g s a (b + 1) = if paN c n g s a b = true then p1N c n g s a b + 1 else p1N c n g s a b := rfl
theorem p2S {g s a : Nat} : p2N c n g s (a + 1) = p2N c n g s a + p1N c n g s a (c 0) := rfl
theorem c_isBetrayed {a b o o' : Nat} (hB : BR σ P D) (hC : CC σ P c) (hw : WC c) (ha : a < c 0) (hb : b < c 0) : Cq 109 [(.ref (0 : Nat)), .int (nI a), .int (nI b), .int (nI o), .int (nI o')] σ Q = Q (some (.int (if beN c o o' a b = true then nI 1 else nI 0))) σ := by
  obtain ⟨b0, b3, b4, b5, b6, b7, b8, b9, b10, b11, b12⟩ := id hB
  obtain ⟨w0, w2, w3, w4, w5, w6, w7, w8, w9⟩ := id hw
  have kP := hC.1.1
  refine Cq_of (Er_of ?_)
  show Wq none 109 0 [some (.ref (0 : Nat)), some (.int (nI a)), some (.int (nI b)), some (.int (nI o)), some (.int (nI o')), none, none] [] σ _
  unfold beN
  cases h1 : sbN c a b o with
  | none =>
    simp only [w109_0, w109_1, w109_4, w109_5, w109_6, w109_7, w109_10, w109_12, w109_14, w109_15, w109_18, w109_19, w109_20, w109_21, w109_24, w109_25, w109_26, w109_28, w109_31, w109_33, w109_35, w109_36, w109_39, w109_41, w109_43, w109_46, w109_47, w109_50, w109_51, ks_0, kP, b4, c_streetsBetween hC hw ha hb, h1, oI, (by decide : nI 1 &&& 1 = nI 1), (by decide : nI 0 &&& 1 = nI 0), ↓reduceIte, Option.toList_some, Option.toList_none, List.cons_append, List.nil_append, and_self, Bool.false_eq_true]
  | some d =>
    have hd := sbN_lt h1
    have hm1 : ¬ nI d = -1 := fun q => nI_m1 (show d < 2 ^ 31 by omega) q.symm
    cases h2 : sbN c a b o' with
    | none =>
      simp only [w109_0, w109_1, w109_4, w109_5, w109_6, w109_7, w109_10, w109_12, w109_14, w109_15, w109_18, w109_19, w109_20, w109_21, w109_24, w109_25, w109_26, w109_28, w109_31, w109_33, w109_35, w109_36, w109_39, w109_41, w109_43, w109_46, w109_47, w109_50, w109_51, ks_0, kP, b4, c_streetsBetween hC hw ha hb, h1, h2, hm1, oI, (by decide : nI 1 &&& 1 = nI 1), (by decide : nI 0 &&& 1 = nI 0), ↓reduceIte, Option.toList_some, Option.toList_none, List.cons_append, List.nil_append, and_self]
    | some d' =>
      have hd' := sbN_lt h2
      have hm2 : ¬ nI d' = -1 := fun q => nI_m1 (show d' < 2 ^ 31 by omega) q.symm
      by_cases hl : d < d'
      · have hl2 : ¬ nI d' ≤ nI d := nI_ge hl (by omega)
        simp only [w109_0, w109_1, w109_4, w109_5, w109_6, w109_7, w109_10, w109_12, w109_14, w109_15, w109_18, w109_19, w109_20, w109_21, w109_24, w109_25, w109_26, w109_28, w109_31, w109_33, w109_35, w109_36, w109_39, w109_41, w109_43, w109_46, w109_47, w109_50, w109_51, ks_0, kP, b4, c_streetsBetween hC hw ha hb, h1, h2, hm1, hm2, hl, hl2, decide_true, oI, (by decide : nI 1 &&& 1 = nI 1), (by decide : nI 0 &&& 1 = nI 0), ↓reduceIte, Option.toList_some, Option.toList_none, List.cons_append, List.nil_append, and_self]
      · have hl2 : nI d' ≤ nI d := nI_le (by omega) (by omega)
        simp only [w109_0, w109_1, w109_4, w109_5, w109_6, w109_7, w109_10, w109_12, w109_14, w109_15, w109_18, w109_19, w109_20, w109_21, w109_24, w109_25, w109_26, w109_28, w109_31, w109_33, w109_35, w109_36, w109_39, w109_41, w109_43, w109_46, w109_47, w109_50, w109_51, ks_0, kP, b4, c_streetsBetween hC hw ha hb, h1, h2, hm1, hm2, hl, hl2, decide_false, oI, (by decide : nI 1 &&& 1 = nI 1), (by decide : nI 0 &&& 1 = nI 0), ↓reduceIte, Option.toList_some, Option.toList_none, List.cons_append, List.nil_append, and_self, Bool.false_eq_true]
theorem l_cPoB {g s a r : Nat} {R : Prop} (hB : BR σ P D) (hC : CC σ P c) (hN : CN σ 24 (c 2) n) (hw : WC c) (hwn : WN c n) (hg : g < c 2) (ha : a < c 0) (kk : ∀ v7, Wq none 107 43 [some (.ref (0 : Nat)), some (.int (nI g)), some (.int (nI s)), some (.int (nI (n (6 + g)))), some (.int (nI (r + p1N c n g s a (c 0)))), some (.int (nI (a + 1))), some (.int (nI (c 0))), v7] [] σ Q = R) :
    ∀ (f b : Nat) (v7 : Option Value), b + f = c 0 → Wq none 107 58 [some (.ref (0 : Nat)), some (.int (nI g)), some (.int (nI s)), some (.int (nI (n (6 + g)))), some (.int (nI (r + p1N c n g s a b))), some (.int (nI a)), some (.int (nI b)), v7] [] σ Q = R := by
  obtain ⟨b0, b3, b4, b5, b6, b7, b8, b9, b10, b11, b12⟩ := id hB
  obtain ⟨w0, w2, w3, w4, w5, w6, w7, w8, w9⟩ := id hw
  obtain ⟨⟨kS, ⟨u1, v1⟩, ⟨u2, v2⟩, ⟨u3, v3⟩⟩, ⟨q0, q1, q2⟩, ⟨j3, j4, j5, j6⟩, jf⟩ := id hN
  have kP := hC.1.1
  obtain ⟨-, -, ⟨i0, i2, i3, i4⟩, -⟩ := id hC
  have p8 : 2 ^ c 0 ≤ 2 ^ 8 := Nat.pow_le_pow_right (by decide) w0
  have g31 : n (6 + g) < 2 ^ 31 := by have := (hwn.1 g hg).2.1; omega
  intro f
  induction f with
  | zero =>
    intro b v7 hb
    obtain rfl : b = c 0 := by omega
    rw [w107_58]
    simp only [w107_0, w107_1, w107_4, w107_5, w107_8, w107_11, w107_12, w107_15, w107_16, w107_19, w107_22, w107_24, w107_25, w107_26, w107_29, w107_32, w107_33, w107_36, w107_37, w107_38, w107_40, w107_41, w107_45, w107_46, w107_49, w107_52, w107_55, w107_56, w107_60, w107_61, w107_64, w107_67, w107_70, w107_72, w107_74, w107_77, w107_78, w107_80, w107_81, w107_82, w107_83, w107_86, w107_87, w107_89, w107_90, w107_91, w107_92, w107_95, w107_96, w107_99, w107_100, w107_102, w107_104, w107_107, w107_108, w107_110, w107_112, w107_113, w107_116, w107_117, w107_120, w107_121, w107_122, w107_125, w107_128, w107_129, w107_130, w107_131, w107_134, w107_137, w107_140, w107_143, w107_146, w107_149, w107_152, w107_154, ks_0, kP, b4, i0, nI_le (Nat.le_refl (c 0)) (show c 0 < 2 ^ 31 by omega), nI_add, ↓reduceIte, Option.toList_some, Option.toList_none, List.cons_append, List.nil_append]
    exact kk v7
  | succ f ih =>
    intro b v7 hb
    have ih := fun v => ih (b + 1) v (by omega)
    have h1 : ¬ nI (c 0) ≤ nI b := nI_ge (by omega) (by omega)
    have ea : nI a = nI b ↔ a = b := nI_eq (by omega) (by omega)
    rw [p1S] at ih
    rw [w107_58]
    by_cases h2 : a = b
    · have hp : paN c n g s a b = false := by unfold paN; simp [h2]
      rw [if_neg (by rw [hp]; decide)] at ih
      subst h2
      simp only [w107_0, w107_1, w107_4, w107_5, w107_8, w107_11, w107_12, w107_15, w107_16, w107_19, w107_22, w107_24, w107_25, w107_26, w107_29, w107_32, w107_33, w107_36, w107_37, w107_38, w107_40, w107_41, w107_45, w107_46, w107_49, w107_52, w107_55, w107_56, w107_60, w107_61, w107_64, w107_67, w107_70, w107_72, w107_74, w107_77, w107_78, w107_80, w107_81, w107_82, w107_83, w107_86, w107_87, w107_89, w107_90, w107_91, w107_92, w107_95, w107_96, w107_99, w107_100, w107_102, w107_104, w107_107, w107_108, w107_110, w107_112, w107_113, w107_116, w107_117, w107_120, w107_121, w107_122, w107_125, w107_128, w107_129, w107_130, w107_131, w107_134, w107_137, w107_140, w107_143, w107_146, w107_149, w107_152, w107_154, ks_0, kP, b4, i0, h1, nI_add, ↓reduceIte, Option.toList_some, Option.toList_none, List.cons_append, List.nil_append]
      exact ih _
    · by_cases h3 : (n (6 + g)).testBit a = true
      · by_cases h4 : (n (6 + g)).testBit b = true
        · have hp : paN c n g s a b = beN c (andn (n (6 + g)) (n 19)) (andn s (n 19)) a b := by unfold paN; simp [h2, h3, h4]
          rw [hp] at ih
          by_cases h5 : beN c (andn (n (6 + g)) (n 19)) (andn s (n 19)) a b = true
          · rw [if_pos h5] at ih
            simp only [w107_0, w107_1, w107_4, w107_5, w107_8, w107_11, w107_12, w107_15, w107_16, w107_19, w107_22, w107_24, w107_25, w107_26, w107_29, w107_32, w107_33, w107_36, w107_37, w107_38, w107_40, w107_41, w107_45, w107_46, w107_49, w107_52, w107_55, w107_56, w107_60, w107_61, w107_64, w107_67, w107_70, w107_72, w107_74, w107_77, w107_78, w107_80, w107_81, w107_82, w107_83, w107_86, w107_87, w107_89, w107_90, w107_91, w107_92, w107_95, w107_96, w107_99, w107_100, w107_102, w107_104, w107_107, w107_108, w107_110, w107_112, w107_113, w107_116, w107_117, w107_120, w107_121, w107_122, w107_125, w107_128, w107_129, w107_130, w107_131, w107_134, w107_137, w107_140, w107_143, w107_146, w107_149, w107_152, w107_154, ks_0, ks_24, kP, b4, b6, i0, j3, h1, ea, h2, nI_bit g31 (show a < 32 by omega), nI_bit g31 (show b < 32 by omega), h3, h4, nI_ne1, c_openTo hN w2 hg, nI_andn, c_isBetrayed hB hC hw ha (show b < c 0 by omega), h5, nI_add, Nat.add_assoc, ↓reduceIte, Option.toList_some, Option.toList_none, List.cons_append, List.nil_append]
            exact ih _
          · rw [if_neg h5] at ih
            simp only [w107_0, w107_1, w107_4, w107_5, w107_8, w107_11, w107_12, w107_15, w107_16, w107_19, w107_22, w107_24, w107_25, w107_26, w107_29, w107_32, w107_33, w107_36, w107_37, w107_38, w107_40, w107_41, w107_45, w107_46, w107_49, w107_52, w107_55, w107_56, w107_60, w107_61, w107_64, w107_67, w107_70, w107_72, w107_74, w107_77, w107_78, w107_80, w107_81, w107_82, w107_83, w107_86, w107_87, w107_89, w107_90, w107_91, w107_92, w107_95, w107_96, w107_99, w107_100, w107_102, w107_104, w107_107, w107_108, w107_110, w107_112, w107_113, w107_116, w107_117, w107_120, w107_121, w107_122, w107_125, w107_128, w107_129, w107_130, w107_131, w107_134, w107_137, w107_140, w107_143, w107_146, w107_149, w107_152, w107_154, ks_0, ks_24, kP, b4, b6, i0, j3, h1, ea, h2, nI_bit g31 (show a < 32 by omega), nI_bit g31 (show b < 32 by omega), h3, h4, nI_ne1, c_openTo hN w2 hg, nI_andn, c_isBetrayed hB hC hw ha (show b < c 0 by omega), h5, nI_add, Nat.add_assoc, ↓reduceIte, Option.toList_some, Option.toList_none, List.cons_append, List.nil_append]
            exact ih _
        · have hp : paN c n g s a b = false := by unfold paN; simp [h4]
          rw [if_neg (by rw [hp]; decide)] at ih
          simp only [w107_0, w107_1, w107_4, w107_5, w107_8, w107_11, w107_12, w107_15, w107_16, w107_19, w107_22, w107_24, w107_25, w107_26, w107_29, w107_32, w107_33, w107_36, w107_37, w107_38, w107_40, w107_41, w107_45, w107_46, w107_49, w107_52, w107_55, w107_56, w107_60, w107_61, w107_64, w107_67, w107_70, w107_72, w107_74, w107_77, w107_78, w107_80, w107_81, w107_82, w107_83, w107_86, w107_87, w107_89, w107_90, w107_91, w107_92, w107_95, w107_96, w107_99, w107_100, w107_102, w107_104, w107_107, w107_108, w107_110, w107_112, w107_113, w107_116, w107_117, w107_120, w107_121, w107_122, w107_125, w107_128, w107_129, w107_130, w107_131, w107_134, w107_137, w107_140, w107_143, w107_146, w107_149, w107_152, w107_154, ks_0, kP, b4, i0, h1, ea, h2, nI_bit g31 (show a < 32 by omega), nI_bit g31 (show b < 32 by omega), h3, h4, nI_ne1, nI_add, ↓reduceIte, Option.toList_some, Option.toList_none, List.cons_append, List.nil_append, Bool.false_eq_true]
          exact ih _
      · have hp : paN c n g s a b = false := by unfold paN; simp [h3]
        rw [if_neg (by rw [hp]; decide)] at ih
        simp only [w107_0, w107_1, w107_4, w107_5, w107_8, w107_11, w107_12, w107_15, w107_16, w107_19, w107_22, w107_24, w107_25, w107_26, w107_29, w107_32, w107_33, w107_36, w107_37, w107_38, w107_40, w107_41, w107_45, w107_46, w107_49, w107_52, w107_55, w107_56, w107_60, w107_61, w107_64, w107_67, w107_70, w107_72, w107_74, w107_77, w107_78, w107_80, w107_81, w107_82, w107_83, w107_86, w107_87, w107_89, w107_90, w107_91, w107_92, w107_95, w107_96, w107_99, w107_100, w107_102, w107_104, w107_107, w107_108, w107_110, w107_112, w107_113, w107_116, w107_117, w107_120, w107_121, w107_122, w107_125, w107_128, w107_129, w107_130, w107_131, w107_134, w107_137, w107_140, w107_143, w107_146, w107_149, w107_152, w107_154, ks_0, kP, b4, i0, h1, ea, h2, nI_bit g31 (show a < 32 by omega), h3, nI_add, ↓reduceIte, Option.toList_some, Option.toList_none, List.cons_append, List.nil_append, Bool.false_eq_true]
        exact ih _
theorem l_cPoA {g s : Nat} (hB : BR σ P D) (hC : CC σ P c) (hN : CN σ 24 (c 2) n) (hw : WC c) (hwn : WN c n) (hg : g < c 2) :
    ∀ (f a : Nat) (v6 v7 : Option Value), a + f = c 0 → Wq none 107 43 [some (.ref (0 : Nat)), some (.int (nI g)), some (.int (nI s)), some (.int (nI (n (6 + g)))), some (.int (nI (p2N c n g s a))), some (.int (nI a)), v6, v7] [] σ Q = Q (some (.int (nI (p2N c n g s (c 0))))) σ := by
  obtain ⟨b0, b3, b4, b5, b6, b7, b8, b9, b10, b11, b12⟩ := id hB
  obtain ⟨w0, w2, w3, w4, w5, w6, w7, w8, w9⟩ := id hw
  have kP := hC.1.1
  obtain ⟨-, -, ⟨i0, i2, i3, i4⟩, -⟩ := id hC
  intro f
  induction f with
  | zero =>
    intro a v6 v7 ha
    obtain rfl : a = c 0 := by omega
    rw [w107_43]
    simp only [w107_0, w107_1, w107_4, w107_5, w107_8, w107_11, w107_12, w107_15, w107_16, w107_19, w107_22, w107_24, w107_25, w107_26, w107_29, w107_32, w107_33, w107_36, w107_37, w107_38, w107_40, w107_41, w107_45, w107_46, w107_49, w107_52, w107_55, w107_56, w107_60, w107_61, w107_64, w107_67, w107_70, w107_72, w107_74, w107_77, w107_78, w107_80, w107_81, w107_82, w107_83, w107_86, w107_87, w107_89, w107_90, w107_91, w107_92, w107_95, w107_96, w107_99, w107_100, w107_102, w107_104, w107_107, w107_108, w107_110, w107_112, w107_113, w107_116, w107_117, w107_120, w107_121, w107_122, w107_125, w107_128, w107_129, w107_130, w107_131, w107_134, w107_137, w107_140, w107_143, w107_146, w107_149, w107_152, w107_154, ks_0, kP, b4, i0, nI_le (Nat.le_refl (c 0)) (show c 0 < 2 ^ 31 by omega), ↓reduceIte, Option.toList_some, Option.toList_none, List.cons_append, List.nil_append]
  | succ f ih =>
    intro a v6 v7 ha
    have ih := fun v => ih (a + 1) (some (.int (nI (c 0)))) v (by omega)
    have h1 : ¬ nI (c 0) ≤ nI a := nI_ge (by omega) (by omega)
    rw [p2S] at ih
    rw [w107_43]
    simp only [w107_0, w107_1, w107_4, w107_5, w107_8, w107_11, w107_12, w107_15, w107_16, w107_19, w107_22, w107_24, w107_25, w107_26, w107_29, w107_32, w107_33, w107_36, w107_37, w107_38, w107_40, w107_41, w107_45, w107_46, w107_49, w107_52, w107_55, w107_56, w107_60, w107_61, w107_64, w107_67, w107_70, w107_72, w107_74, w107_77, w107_78, w107_80, w107_81, w107_82, w107_83, w107_86, w107_87, w107_89, w107_90, w107_91, w107_92, w107_95, w107_96, w107_99, w107_100, w107_102, w107_104, w107_107, w107_108, w107_110, w107_112, w107_113, w107_116, w107_117, w107_120, w107_121, w107_122, w107_125, w107_128, w107_129, w107_130, w107_131, w107_134, w107_137, w107_140, w107_143, w107_146, w107_149, w107_152, w107_154, ks_0, kP, b4, i0, h1, ↓reduceIte, Option.toList_some, Option.toList_none, List.cons_append, List.nil_append]
    exact l_cPoB hB hC hN hw hwn hg (show a < c 0 by omega) ih (c 0) 0 v7 (by omega)
theorem set_cs (hw : WC c) (x : Int32) : (∃ s, s < 2 ^ c 0 ∧ x = nI s) ∨ ¬ ∃ s, s < 2 ^ c 0 ∧ x = nI s := Classical.em _
end PO
