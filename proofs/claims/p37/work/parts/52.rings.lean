/-! ring, all go by, pose, clouds -/
theorem bt_leF (c aw : Nat → Nat) (o x k : Nat) : btN c aw o x k ≤ FAR := by
  unfold btN
  split
  · omega
  · exact Nat.le_refl _
theorem lay_fs {c : Nat → Nat} {o a b d : Nat} (hw : WC c) (ha : a < c 0) (hb : b < c 0) (hs : sbN c a b o = some d) : lay c o b a = d ∧ nI d < nI 100000000 ∧ ¬ nI 100000000 ≤ nI d := by
  have hl := lay_sb (o := o) hw ha hb
  rw [hs] at hl
  have hd := sbN_lt hs
  have h8 := hw.1
  refine ⟨hl, (far_lt (by omega)).mpr (by unfold FAR; omega), fun q => ?_⟩
  have := (far_le (by omega)).mp q
  unfold FAR at this
  omega
theorem lay_fn {c : Nat → Nat} {o a b : Nat} (hw : WC c) (ha : a < c 0) (hb : b < c 0) (hs : sbN c a b o = none) : lay c o b a = 100000000 := by
  have hl := lay_sb (o := o) hw ha hb
  rw [hs] at hl
  exact hl
section RG
variable {σ : dm_G} {c n : Nat → Nat} {P D : Nat} {Q : Option Value → dm_G → Prop}
/-- the crossings below x by which all go -/
def agN (c : Nat → Nat) (a b o : Nat) : Nat → Nat := fun x => match x with
  | 0 => 0
  | x + 1 => if x ≠ a ∧ x ≠ b ∧ sbN c a b (andn o (1 <<< x)) = none then agN c a b o x ||| 1 <<< x else agN c a b o x
theorem agS {a b o x : Nat} : agN c a b o (x + 1) = if x ≠ a ∧ x ≠ b ∧ sbN c a b (andn o (1 <<< x)) = none then agN c a b o x ||| 1 <<< x else agN c a b o x := rfl
theorem oI_some {o : Option Nat} (h : ∀ d, o = some d → d < 2 ^ 31) (hn : o ≠ none) : ¬ oI o = -1 := by
  cases o with
  | none => exact absurd rfl hn
  | some d => exact fun z => nI_m1 (h d rfl) z.symm
theorem l_cAll {g a b o : Nat} (hB : BR σ P D) (hC : CC σ P c) (hw : WC c) (ha : a < c 0) (hb : b < c 0) : ∀ (f x : Nat), x + f = c 0 → Q (some (.int (nI (agN c a b o (c 0))))) σ → Wq none 106 69 [some (.ref (0 : Nat)), some (.int (nI g)), some (.int (nI a)), some (.int (nI b)), some (.int (nI o)), some (.int (nI (agN c a b o x))), some (.int (nI x))] [] σ Q := by
  obtain ⟨b0, b3, b4, b5, b6, b7, b8, b9, b10, b11, b12⟩ := id hB
  obtain ⟨w0, w2, w3, w4, w5, w6, w7, w8, w9⟩ := id hw
  have kP := hC.1.1
  obtain ⟨-, -, ⟨i0, i2, i3, i4⟩, -⟩ := id hC
  intro f
  induction f with
  | zero =>
    intro x hx hq
    obtain rfl : x = c 0 := by omega
    rw [w106_69]
    simp only [w106_0, w106_1, w106_4, w106_5, w106_8, w106_11, w106_12, w106_15, w106_16, w106_19, w106_22, w106_23, w106_26, w106_27, w106_30, w106_33, w106_35, w106_36, w106_37, w106_40, w106_41, w106_44, w106_46, w106_47, w106_50, w106_51, w106_52, w106_54, w106_57, w106_58, w106_61, w106_62, w106_63, w106_64, w106_66, w106_67, w106_71, w106_72, w106_75, w106_78, w106_81, w106_83, w106_84, w106_87, w106_89, w106_90, w106_93, w106_94, w106_97, w106_98, w106_99, w106_101, w106_102, w106_104, w106_105, w106_106, w106_107, w106_108, w106_111, w106_112, w106_115, w106_117, w106_118, w106_120, w106_121, w106_122, w106_124, w106_127, w106_130, w106_132, ks_0, kP, b4, i0, nI_le (Nat.le_refl (c 0)) (show c 0 < 2 ^ 31 by omega), ↓reduceIte, Option.toList_some, Option.toList_none, List.cons_append, List.nil_append]
    exact hq
  | succ f ih =>
    intro x hx hq
    have ih := ih (x + 1) (by omega) hq
    have h1 : ¬ nI (c 0) ≤ nI x := nI_ge (by omega) (by omega)
    have ea : nI x = nI a ↔ x = a := nI_eq (by omega) (by omega)
    have eb : nI x = nI b ↔ x = b := nI_eq (by omega) (by omega)
    rw [agS] at ih
    rw [w106_69]
    by_cases h2 : x = a
    · rw [if_neg (fun z => z.1 h2)] at ih
      subst h2
      simp only [w106_0, w106_1, w106_4, w106_5, w106_8, w106_11, w106_12, w106_15, w106_16, w106_19, w106_22, w106_23, w106_26, w106_27, w106_30, w106_33, w106_35, w106_36, w106_37, w106_40, w106_41, w106_44, w106_46, w106_47, w106_50, w106_51, w106_52, w106_54, w106_57, w106_58, w106_61, w106_62, w106_63, w106_64, w106_66, w106_67, w106_71, w106_72, w106_75, w106_78, w106_81, w106_83, w106_84, w106_87, w106_89, w106_90, w106_93, w106_94, w106_97, w106_98, w106_99, w106_101, w106_102, w106_104, w106_105, w106_106, w106_107, w106_108, w106_111, w106_112, w106_115, w106_117, w106_118, w106_120, w106_121, w106_122, w106_124, w106_127, w106_130, w106_132, ks_0, kP, b4, i0, h1, nI_add, ↓reduceIte, Option.toList_some, Option.toList_none, List.cons_append, List.nil_append]
      exact ih
    · by_cases h3 : x = b
      · rw [if_neg (fun z => z.2.1 h3)] at ih
        subst h3
        simp only [w106_0, w106_1, w106_4, w106_5, w106_8, w106_11, w106_12, w106_15, w106_16, w106_19, w106_22, w106_23, w106_26, w106_27, w106_30, w106_33, w106_35, w106_36, w106_37, w106_40, w106_41, w106_44, w106_46, w106_47, w106_50, w106_51, w106_52, w106_54, w106_57, w106_58, w106_61, w106_62, w106_63, w106_64, w106_66, w106_67, w106_71, w106_72, w106_75, w106_78, w106_81, w106_83, w106_84, w106_87, w106_89, w106_90, w106_93, w106_94, w106_97, w106_98, w106_99, w106_101, w106_102, w106_104, w106_105, w106_106, w106_107, w106_108, w106_111, w106_112, w106_115, w106_117, w106_118, w106_120, w106_121, w106_122, w106_124, w106_127, w106_130, w106_132, ks_0, kP, b4, i0, h1, ea, h2, nI_add, ↓reduceIte, Option.toList_some, Option.toList_none, List.cons_append, List.nil_append]
        exact ih
      · by_cases h4 : sbN c a b (andn o (1 <<< x)) = none
        · rw [if_pos ⟨h2, h3, h4⟩] at ih
          simp only [w106_0, w106_1, w106_4, w106_5, w106_8, w106_11, w106_12, w106_15, w106_16, w106_19, w106_22, w106_23, w106_26, w106_27, w106_30, w106_33, w106_35, w106_36, w106_37, w106_40, w106_41, w106_44, w106_46, w106_47, w106_50, w106_51, w106_52, w106_54, w106_57, w106_58, w106_61, w106_62, w106_63, w106_64, w106_66, w106_67, w106_71, w106_72, w106_75, w106_78, w106_81, w106_83, w106_84, w106_87, w106_89, w106_90, w106_93, w106_94, w106_97, w106_98, w106_99, w106_101, w106_102, w106_104, w106_105, w106_106, w106_107, w106_108, w106_111, w106_112, w106_115, w106_117, w106_118, w106_120, w106_121, w106_122, w106_124, w106_127, w106_130, w106_132, ks_0, kP, b4, i0, h1, ea, h2, eb, h3, nI_shl 1 (show x < 32 by omega), nI_andn, c_streetsBetween hC hw ha hb, h4, oI, nI_or, nI_add, ↓reduceIte, Option.toList_some, Option.toList_none, List.cons_append, List.nil_append]
          exact ih
        · rw [if_neg (fun z => h4 z.2.2)] at ih
          have h5 : ¬ oI (sbN c a b (andn o (1 <<< x))) = -1 := oI_some (fun d hd => by have := sbN_lt hd; omega) h4
          simp only [w106_0, w106_1, w106_4, w106_5, w106_8, w106_11, w106_12, w106_15, w106_16, w106_19, w106_22, w106_23, w106_26, w106_27, w106_30, w106_33, w106_35, w106_36, w106_37, w106_40, w106_41, w106_44, w106_46, w106_47, w106_50, w106_51, w106_52, w106_54, w106_57, w106_58, w106_61, w106_62, w106_63, w106_64, w106_66, w106_67, w106_71, w106_72, w106_75, w106_78, w106_81, w106_83, w106_84, w106_87, w106_89, w106_90, w106_93, w106_94, w106_97, w106_98, w106_99, w106_101, w106_102, w106_104, w106_105, w106_106, w106_107, w106_108, w106_111, w106_112, w106_115, w106_117, w106_118, w106_120, w106_121, w106_122, w106_124, w106_127, w106_130, w106_132, ks_0, kP, b4, i0, h1, ea, h2, eb, h3, nI_shl 1 (show x < 32 by omega), nI_andn, c_streetsBetween hC hw ha hb, h5, nI_add, ↓reduceIte, Option.toList_some, Option.toList_none, List.cons_append, List.nil_append]
          exact ih
-- clouds
def clN (q : Int64) : Nat → Int64 → Int64 := fun k u => match k with
  | 0 => u
  | k + 1 => clN q k (u * q / lN 100)
theorem l_cCl {q : Int32} {d : Nat} (hd : d < 2 ^ 31) : ∀ (f i : Nat) (u : Int64), i + f = d → Wq none 108 30 [some (.ref (0 : Nat)), some (.int (nI d)), some (.int q), some (.long u), none, some (.int (nI i))] [] σ Q = Q (some (.int (clN q.toInt64 f u).toInt32)) σ := by
  intro f
  induction f with
  | zero =>
    intro i u hi
    obtain rfl : i = d := by omega
    rw [w108_30]
    simp only [w108_0, w108_1, w108_4, w108_5, w108_7, w108_10, w108_11, w108_14, w108_15, w108_17, w108_20, w108_22, w108_23, w108_26, w108_27, w108_28, w108_32, w108_33, w108_36, w108_37, w108_38, w108_39, w108_40, w108_43, w108_44, w108_45, w108_48, w108_51, w108_52, w108_53, nI_le (Nat.le_refl i) hd, ↓reduceIte, Option.toList_some, Option.toList_none, List.cons_append, List.nil_append]
    rfl
  | succ f ih =>
    intro i u hi
    have h1 : ¬ nI d ≤ nI i := nI_ge (by omega) hd
    rw [w108_30]
    simp only [w108_0, w108_1, w108_4, w108_5, w108_7, w108_10, w108_11, w108_14, w108_15, w108_17, w108_20, w108_22, w108_23, w108_26, w108_27, w108_28, w108_32, w108_33, w108_36, w108_37, w108_38, w108_39, w108_40, w108_43, w108_44, w108_45, w108_48, w108_51, w108_52, w108_53, h1, (by decide : ¬ lN 100 = 0), not_false_eq_true, nI_add, ↓reduceIte, Option.toList_some, Option.toList_none, List.cons_append, List.nil_append]
    exact ih (i + 1) _ (by omega)
end RG
