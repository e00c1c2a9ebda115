/-! ring, all go by, pose, clouds -/
theorem bt_leF (c aw : Nat → Nat) (o x k : Nat) : btN c aw o x k ≤ FAR := by
  unfold btN
  split
  · omega
  · exact Nat.le_refl _
theorem lay_fs {c : Nat → Nat} {o a b d : Nat} (hw : WC c) (ha : a < c 0) (hb : b < c 0) (hs : sbN c a b o = some d) : lay c o b a = d ∧ nI d < nI 100000000 ∧ ¬ nI 100000000 ≤ nI d := by
  have hl := lay_sb (o := o) hw ha hb
  rw [hs] at hl
  have hd := sbN_lt hs
  have h8 := hw.1
  refine ⟨hl, (far_lt (by omega)).mpr (by unfold FAR; omega), fun q => ?_⟩
  have := (far_le (by omega)).mp q
  unfold FAR at this
  omega
theorem lay_fn {c : Nat → Nat} {o a b : Nat} (hw : WC c) (ha : a < c 0) (hb : b < c 0) (hs : sbN c a b o = none) : lay c o b a = 100000000 := by
  have hl := lay_sb (o := o) hw ha hb
  rw [hs] at hl
  exact hl
section RG
variable {σ : dm_G} {c n : Nat → Nat} {P D : Nat} {Q : Option Value → dm_G → Prop}
/-- the crossings below x by which all go -/
def agN (c : Nat → Nat) (a b o : Nat) : Nat → Nat := fun x => match x with
  | 0 => 0
  | x + 1 => if x ≠ a ∧ x ≠ b ∧ sbN c a b (andn o (1 <<< x)) = none then agN c a b o x ||| 1 <<< x else agN c a b o x
theorem agS {a b o x : Nat} : agN c a b o (x + 1) = if x ≠ a ∧ x ≠ b ∧ sbN c a b (andn o (1 <<< x)) = none then agN c a b o x ||| 1 <<< x else agN c a b o x := rfl
theorem oI_some {o : Option Nat} (h : ∀ d, o = some d → d < 2 ^ 31) (hn : o ≠ none) : ¬ oI o = -1 := by
  cases o with
  | none => exact absurd rfl hn
  | some d => exact fun z => nI_m1 (h d rfl) z.symm
theorem l_cAll {g a b o : Nat} (hB : BR σ P D) (hC : CC σ P c) (hw : WC c) (ha : a < c 0) (hb : b < c 0) : ∀ (f x : Nat), x + f = c 0 → Q (some (.int (nI (agN c a b o (c 0))))) σ → Wq none 105 69 [some (.ref (0 : Nat)), some (.int (nI g)), some (.int (nI a)), some (.int (nI b)), some (.int (nI o)), some (.int (nI (agN c a b o x))), some (.int (nI x))] [] σ Q := by
  obtain ⟨b0, b3, b4, b5, b6, b7, b8, b9, b10, b11, b12⟩ := id hB
  obtain ⟨w0, w2, w3, w4, w5, w6, w7, w8, w9⟩ := id hw
  have kP := hC.1.1
  obtain ⟨-, -, ⟨i0, i2, i3, i4⟩, -⟩ := id hC
  intro f
  induction f with
  | zero =>
    intro x hx hq
    obtain rfl : x = c 0 := by omega
    rw [w105_69]
    simp only [w105_0, w105_1, w105_4, w105_5, w105_8, w105_11, w105_12, w105_15, w105_16, w105_19, w105_22, w105_23, w105_26, w105_27, w105_30, w105_33, w105_35, w105_36, w105_37, w105_40, w105_41, w105_44, w105_46, w105_47, w105_50, w105_51, w105_52, w105_54, w105_57, w105_58, w105_61, w105_62, w105_63, w105_64, w105_66, w105_67, w105_71, w105_72, w105_75, w105_78, w105_81, w105_83, w105_84, w105_87, w105_89, w105_90, w105_93, w105_94, w105_97, w105_98, w105_99, w105_101, w105_102, w105_104, w105_105, w105_106, w105_107, w105_108, w105_111, w105_112, w105_115, w105_117, w105_118, w105_120, w105_121, w105_122, w105_124, w105_127, w105_130, w105_132, ks_0, kP, b4, i0, nI_le (Nat.le_refl (c 0)) (show c 0 < 2 ^ 31 by omega), ↓reduceIte, Option.toList_some, Option.toList_none, List.cons_append, List.nil_append]
    exact hq
  | succ f ih =>
    intro x hx hq
    have ih := ih (x + 1) (by omega) hq
    have h1 : ¬ nI (c 0) ≤ nI x := nI_ge (by omega) (by omega)
    have ea : nI x = nI a ↔ x = a := nI_eq (by omega) (by omega)
    have eb : nI x = nI b ↔ x = b := nI_eq (by omega) (by omega)
    rw [agS] at ih
    rw [w105_69]
    by_cases h2 : x = a
    · rw [if_neg (fun z => z.1 h2)] at ih
      subst h2
      simp only [w105_0, w105_1, w105_4, w105_5, w105_8, w105_11, w105_12, w105_15, w105_16, w105_19, w105_22, w105_23, w105_26, w105_27, w105_30, w105_33, w105_35, w105_36, w105_37, w105_40, w105_41, w105_44, w105_46, w105_47, w105_50, w105_51, w105_52, w105_54, w105_57, w105_58, w105_61, w105_62, w105_63, w105_64, w105_66, w105_67, w105_71, w105_72, w105_75, w105_78, w105_81, w105_83, w105_84, w105_87, w105_89, w105_90, w105_93, w105_94, w105_97, w105_98, w105_99, w105_101, w105_102, w105_104, w105_105, w105_106, w105_107, w105_108, w105_111, w105_112, w105_115, w105_117, w105_118, w105_120, w105_121, w105_122, w105_124, w105_127, w105_130, w105_132, ks_0, kP, b4, i0, h1, nI_add, ↓reduceIte, Option.toList_some, Option.toList_none, List.cons_append, List.nil_append]
      exact ih
    · by_cases h3 : x = b
      · rw [if_neg (fun z => z.2.1 h3)] at ih
        subst h3
        simp only [w105_0, w105_1, w105_4, w105_5, w105_8, w105_11, w105_12, w105_15, w105_16, w105_19, w105_22, w105_23, w105_26, w105_27, w105_30, w105_33, w105_35, w105_36, w105_37, w105_40, w105_41, w105_44, w105_46, w105_47, w105_50, w105_51, w105_52, w105_54, w105_57, w105_58, w105_61, w105_62, w105_63, w105_64, w105_66, w105_67, w105_71, w105_72, w105_75, w105_78, w105_81, w105_83, w105_84, w105_87, w105_89, w105_90, w105_93, w105_94, w105_97, w105_98, w105_99, w105_101, w105_102, w105_104, w105_105, w105_106, w105_107, w105_108, w105_111, w105_112, w105_115, w105_117, w105_118, w105_120, w105_121, w105_122, w105_124, w105_127, w105_130, w105_132, ks_0, kP, b4, i0, h1, ea, h2, nI_add, ↓reduceIte, Option.toList_some, Option.toList_none, List.cons_append, List.nil_append]
        exact ih
      · by_cases h4 : sbN c a b (andn o (1 <<< x)) = none
        · rw [if_pos ⟨h2, h3, h4⟩] at ih
          simp only [w105_0, w105_1, w105_4, w105_5, w105_8, w105_11, w105_12, w105_15, w105_16, w105_19, w105_22, w105_23, w105_26, w105_27, w105_30, w105_33, w105_35, w105_36, w105_37, w105_40, w105_41, w105_44, w105_46, w105_47, w105_50, w105_51, w105_52, w105_54, w105_57, w105_58, w105_61, w105_62, w105_63, w105_64, w105_66, w105_67, w105_71, w105_72, w105_75, w105_78, w105_81, w105_83, w105_84, w105_87, w105_89, w105_90, w105_93, w105_94, w105_97, w105_98, w105_99, w105_101, w105_102, w105_104, w105_105, w105_106, w105_107, w105_108, w105_111, w105_112, w105_115, w105_117, w105_118, w105_120, w105_121, w105_122, w105_124, w105_127, w105_130, w105_132, ks_0, kP, b4, i0, h1, ea, h2, eb, h3, nI_shl 1 (show x < 32 by omega), nI_andn, c_streetsBetween hC hw ha hb, h4, oI, nI_or, nI_add, ↓reduceIte, Option.toList_some, Option.toList_none, List.cons_append, List.nil_append]
          exact ih
        · rw [if_neg (fun z => h4 z.2.2)] at ih
          have h5 : ¬ oI (sbN c a b (andn o (1 <<< x))) = -1 := oI_some (fun d hd => by have := sbN_lt hd; omega) h4
          simp only [w105_0, w105_1, w105_4, w105_5, w105_8, w105_11, w105_12, w105_15, w105_16, w105_19, w105_22, w105_23, w105_26, w105_27, w105_30, w105_33, w105_35, w105_36, w105_37, w105_40, w105_41, w105_44, w105_46, w105_47, w105_50, w105_51, w105_52, w105_54, w105_57, w105_58, w105_61, w105_62, w105_63, w105_64, w105_66, w105_67, w105_71, w105_72, w105_75, w105_78, w105_81, w105_83, w105_84, w105_87, w105_89, w105_90, w105_93, w105_94, w105_97, w105_98, w105_99, w105_101, w105_102, w105_104, w105_105, w105_106, w105_107, w105_108, w105_111, w105_112, w105_115, w105_117, w105_118, w105_120, w105_121, w105_122, w105_124, w105_127, w105_130, w105_132, ks_0, kP, b4, i0, h1, ea, h2, eb, h3, nI_shl 1 (show x < 32 by omega), nI_andn, c_streetsBetween hC hw ha hb, h5, nI_add, ↓reduceIte, Option.toList_some, Option.toList_none, List.cons_append, List.nil_append]
          exact ih
-- clouds
def clN (q : Int64) : Nat → Int64 → Int64 := fun k u => match k with
  | 0 => u
  | k + 1 => clN q k (u * q / lN 100)
theorem l_cCl {q : Int32} {d : Nat} (hd : d < 2 ^ 31) : ∀ (f i : Nat) (u : Int64), i + f = d → Wq none 107 30 [some (.ref (0 : Nat)), some (.int (nI d)), some (.int q), some (.long u), none, some (.int (nI i))] [] σ Q = Q (some (.int (clN q.toInt64 f u).toInt32)) σ := by
  intro f
  induction f with
  | zero =>
    intro i u hi
    obtain rfl : i = d := by omega
    rw [w107_30]
    simp only [w107_0, w107_1, w107_4, w107_5, w107_7, w107_10, w107_11, w107_14, w107_15, w107_17, w107_20, w107_22, w107_23, w107_26, w107_27, w107_28, w107_32, w107_33, w107_36, w107_37, w107_38, w107_39, w107_40, w107_43, w107_44, w107_45, w107_48, w107_51, w107_52, w107_53, nI_le (Nat.le_refl i) hd, ↓reduceIte, Option.toList_some, Option.toList_none, List.cons_append, List.nil_append]
    rfl
  | succ f ih =>
    intro i u hi
    have h1 : ¬ nI d ≤ nI i := nI_ge (by omega) hd
    rw [w107_30]
    simp only [w107_0, w107_1, w107_4, w107_5, w107_7, w107_10, w107_11, w107_14, w107_15, w107_17, w107_20, w107_22, w107_23, w107_26, w107_27, w107_28, w107_32, w107_33, w107_36, w107_37, w107_38, w107_39, w107_40, w107_43, w107_44, w107_45, w107_48, w107_51, w107_52, w107_53, h1, (by decide : ¬ lN 100 = 0), not_false_eq_true, nI_add, ↓reduceIte, Option.toList_some, Option.toList_none, List.cons_append, List.nil_append]
    exact ih (i + 1) _ (by omega)
end RG
