/-! what is heard: the reference -/
def MH (σ : dm_G) (h : Nat) (hs ht : Nat → Nat) : Prop := σ 118 13 = .int (nI h) ∧ (∀ k, k < h → gi σ 126 k = nI (hs k)) ∧ ∀ k, 1 ≤ k → k < h → gi σ 127 k = nI (ht k)
theorem okN_mono {c hs ht : Nat → Nat} {x : Nat} {k : Nat} (h : okN c hs ht x k = false) : ∀ j, k ≤ j → okN c hs ht x j = false := by
  intro j
  induction j with
  | zero => intro hj; obtain rfl : k = 0 := by omega
            exact h
  | succ j ih =>
    intro hj
    rcases Nat.lt_or_ge j k with h1 | h1
    · obtain rfl : k = j + 1 := by omega
      exact h
    · rw [okN, ih h1, Bool.false_and]
def pkN (fb : Bool) (x y : Nat) : Nat := if fb = true then x else y
/-- where one is, or began, of those below x -/
def heB (fb : Bool) (c hs ht : Nat → Nat) (k : Nat) : Nat → Nat := fun x => match x with
  | 0 => 0
  | x + 1 => if okN c hs ht x k = true then heB fb c hs ht k x ||| 1 <<< pkN fb x (psN c ht x k) else heB fb c hs ht k x
theorem heB_t {c hs ht : Nat → Nat} {k : Nat} : ∀ x, heB true c hs ht k x = stN c hs ht k x := by
  intro x
  induction x with
  | zero => rfl
  | succ x ih => rw [heB, stN, ih]; rfl
theorem heB_f {c hs ht : Nat → Nat} {k : Nat} : ∀ x, heB false c hs ht k x = heN c hs ht k x := by
  intro x
  induction x with
  | zero => rfl
  | succ x ih => rw [heB, heN, ih]; rfl
section MHS
variable {σ : dm_G} {c hs ht : Nat → Nat} {Q : Option Value → dm_G → Prop}
theorem l_hereK {fb : Bool} {h x s : Nat} {R : Prop} (hM : MR σ) (hc : MC σ c) (hw : WC c) (hH : MH σ h hs ht) (hh : h ≤ 9) (hhs : ∀ k, hs k < 6) (hht : ∀ k, ht k < 3) (hx : x < c 0)
    (kk : ∀ v4 v5 v6 : Option Value, Wq none 196 4 [some (.ref (118 : Nat)), some (.int (nI (if fb = true then 1 else 0))), some (.int (nI (if okN c hs ht x (h - 1) = true then s ||| 1 <<< pkN fb x (psN c ht x (h - 1)) else s))), some (.int (nI (x + 1))), v4, v5, v6] [] σ Q = R) :
    ∀ (n k : Nat), k + n = h → 1 ≤ k → Wq none 196 51 [some (.ref (118 : Nat)), some (.int (nI (if fb = true then 1 else 0))), some (.int (nI s)), some (.int (nI x)), some (.int (nI (psN c ht x (k - 1)))), some (.int (nI (if okN c hs ht x (k - 1) = true then 1 else 0))), some (.int (nI k))] [] σ Q = R := by
  obtain ⟨m0, m1, m2, m3, m5, m6, m8, m11, m12, m14, m22, m23, m24, m25, m29, m30, m31, m32⟩ := id hM
  obtain ⟨w0, w2, w3, w4, w5, w6, w7, w8, w9⟩ := id hw
  obtain ⟨h13, hsn, htn⟩ := id hH
  intro n
  induction n with
  | zero =>
    intro k hk h1
    obtain rfl : k = h := by omega
    have h2 : nI k ≤ nI k := nI_le (Nat.le_refl _) (by omega)
    rw [w196_51]
    have hps := psN_lt hw hht hx (k - 1)
    by_cases ho : okN c hs ht x (k - 1) = true
    · rw [if_pos ho] at kk
      cases fb with
      | true => simp only [w196_0, w196_1, w196_2, w196_3, w196_5, w196_6, w196_9, w196_10, w196_11, w196_14, w196_15, w196_18, w196_21, w196_22, w196_24, w196_25, w196_28, w196_29, w196_30, w196_31, w196_32, w196_33, w196_36, w196_37, w196_38, w196_41, w196_42, w196_45, w196_46, w196_48, w196_49, w196_53, w196_54, w196_57, w196_60, w196_62, w196_65, w196_66, w196_68, w196_69, w196_72, w196_74, w196_75, w196_78, w196_80, w196_81, w196_84, w196_85, w196_87, w196_88, w196_89, w196_90, w196_93, w196_95, w196_96, w196_99, w196_100, w196_103, w196_104, w196_106, w196_109, w196_112, w196_113, w196_115, w196_118, w196_119, w196_120, w196_123, w196_124, w196_127, w196_129, w196_130, w196_133, w196_134, w196_135, w196_136, w196_139, w196_142, w196_143, ks_118, h13, h2, ho, nI_ne1, (by decide : ¬ nI 1 = nI 0), nI_shl 1 (show x < 32 by omega), nI_or, nI_add, pkN, ↓reduceIte, Option.toList_some, Option.toList_none, List.cons_append, List.nil_append] at kk ⊢; exact kk _ _ _
      | false => simp only [w196_0, w196_1, w196_2, w196_3, w196_5, w196_6, w196_9, w196_10, w196_11, w196_14, w196_15, w196_18, w196_21, w196_22, w196_24, w196_25, w196_28, w196_29, w196_30, w196_31, w196_32, w196_33, w196_36, w196_37, w196_38, w196_41, w196_42, w196_45, w196_46, w196_48, w196_49, w196_53, w196_54, w196_57, w196_60, w196_62, w196_65, w196_66, w196_68, w196_69, w196_72, w196_74, w196_75, w196_78, w196_80, w196_81, w196_84, w196_85, w196_87, w196_88, w196_89, w196_90, w196_93, w196_95, w196_96, w196_99, w196_100, w196_103, w196_104, w196_106, w196_109, w196_112, w196_113, w196_115, w196_118, w196_119, w196_120, w196_123, w196_124, w196_127, w196_129, w196_130, w196_133, w196_134, w196_135, w196_136, w196_139, w196_142, w196_143, ks_118, h13, h2, ho, nI_ne1, nI_shl 1 (show psN c ht x (k - 1) < 32 by omega), nI_or, nI_add, pkN, ↓reduceIte, Option.toList_some, Option.toList_none, List.cons_append, List.nil_append, Bool.false_eq_true] at kk ⊢; exact kk _ _ _
    · rw [if_neg ho] at kk
      simp only [w196_0, w196_1, w196_2, w196_3, w196_5, w196_6, w196_9, w196_10, w196_11, w196_14, w196_15, w196_18, w196_21, w196_22, w196_24, w196_25, w196_28, w196_29, w196_30, w196_31, w196_32, w196_33, w196_36, w196_37, w196_38, w196_41, w196_42, w196_45, w196_46, w196_48, w196_49, w196_53, w196_54, w196_57, w196_60, w196_62, w196_65, w196_66, w196_68, w196_69, w196_72, w196_74, w196_75, w196_78, w196_80, w196_81, w196_84, w196_85, w196_87, w196_88, w196_89, w196_90, w196_93, w196_95, w196_96, w196_99, w196_100, w196_103, w196_104, w196_106, w196_109, w196_112, w196_113, w196_115, w196_118, w196_119, w196_120, w196_123, w196_124, w196_127, w196_129, w196_130, w196_133, w196_134, w196_135, w196_136, w196_139, w196_142, w196_143, ks_118, h13, h2, ho, nI_or, Nat.or_zero, nI_add, ↓reduceIte, Option.toList_some, Option.toList_none, List.cons_append, List.nil_append, Bool.false_eq_true]
      exact kk _ _ _
  | succ n ih =>
    intro k hk h1
    have h2 : ¬ nI h ≤ nI k := nI_ge (by omega) (by omega)
    have hps := psN_lt hw hht hx (k - 1)
    rw [w196_51]
    by_cases ho : okN c hs ht x (k - 1) = true
    · obtain ⟨j, rfl⟩ : ∃ j, k = j + 1 := ⟨k - 1, by omega⟩
      simp only [Nat.add_sub_cancel] at ho hps
      have hps1 := psN_lt hw hht hx (j + 1)
      have hT : c (13 + (3 * psN c ht x j + ht (j + 1))) = psN c ht x (j + 1) := rfl
      have ih := ih (j + 1 + 1) (by omega) (by omega)
      simp only [Nat.add_sub_cancel] at ih
      have hb6 : hs (j + 1) < 6 := hhs _
      have hb5 := w5 _ hps1
      by_cases he : c (5 + psN c ht x (j + 1)) = hs (j + 1)
      · have hok : okN c hs ht x (j + 1) = true := by rw [okN, ho]; simp [he]
        rw [if_pos hok] at ih
        simp only [w196_0, w196_1, w196_2, w196_3, w196_5, w196_6, w196_9, w196_10, w196_11, w196_14, w196_15, w196_18, w196_21, w196_22, w196_24, w196_25, w196_28, w196_29, w196_30, w196_31, w196_32, w196_33, w196_36, w196_37, w196_38, w196_41, w196_42, w196_45, w196_46, w196_48, w196_49, w196_53, w196_54, w196_57, w196_60, w196_62, w196_65, w196_66, w196_68, w196_69, w196_72, w196_74, w196_75, w196_78, w196_80, w196_81, w196_84, w196_85, w196_87, w196_88, w196_89, w196_90, w196_93, w196_95, w196_96, w196_99, w196_100, w196_103, w196_104, w196_106, w196_109, w196_112, w196_113, w196_115, w196_118, w196_119, w196_120, w196_123, w196_124, w196_127, w196_129, w196_130, w196_133, w196_134, w196_135, w196_136, w196_139, w196_142, w196_143, Nat.add_sub_cancel, ks_118, m0, m11, m12, h13, h2, ho, nI_ne1, (by decide : ¬ nI 1 = nI 0), kt_119, kt_126, kt_127, in_nI (show j + 1 < kl 127 by rw [kl_127]; omega) (by rw [kl_127]; omega), in_nI (show j + 1 < kl 126 by rw [kl_126]; omega) (by rw [kl_126]; omega), nI_clamp (show j + 1 < 2 ^ 31 by omega), htn (j + 1) (by omega) (by omega), hsn (j + 1) (by omega), c_turned hM hc (show 13 + (3 * psN c ht x j + ht (j + 1)) < 79 by have := hht (j + 1); omega), hT, nI_add, in_nI (show 5 + psN c ht x (j + 1) < kl 119 by rw [kl_119]; omega) (by rw [kl_119]; omega), nI_clamp (show 5 + psN c ht x (j + 1) < 2 ^ 31 by omega), hc _ (show 5 + psN c ht x (j + 1) < 79 by omega), he, ↓reduceIte, Option.toList_some, Option.toList_none, List.cons_append, List.nil_append]
        exact ih
      · have hok : ¬ okN c hs ht x (j + 1) = true := by rw [okN]; simp [he]
        have he' : ¬ nI (c (5 + psN c ht x (j + 1))) = nI (hs (j + 1)) := fun z => he (nI_inj (by omega) (by omega) z)
        rw [if_neg hok] at ih
        simp only [w196_0, w196_1, w196_2, w196_3, w196_5, w196_6, w196_9, w196_10, w196_11, w196_14, w196_15, w196_18, w196_21, w196_22, w196_24, w196_25, w196_28, w196_29, w196_30, w196_31, w196_32, w196_33, w196_36, w196_37, w196_38, w196_41, w196_42, w196_45, w196_46, w196_48, w196_49, w196_53, w196_54, w196_57, w196_60, w196_62, w196_65, w196_66, w196_68, w196_69, w196_72, w196_74, w196_75, w196_78, w196_80, w196_81, w196_84, w196_85, w196_87, w196_88, w196_89, w196_90, w196_93, w196_95, w196_96, w196_99, w196_100, w196_103, w196_104, w196_106, w196_109, w196_112, w196_113, w196_115, w196_118, w196_119, w196_120, w196_123, w196_124, w196_127, w196_129, w196_130, w196_133, w196_134, w196_135, w196_136, w196_139, w196_142, w196_143, Nat.add_sub_cancel, ks_118, m0, m11, m12, h13, h2, ho, nI_ne1, (by decide : ¬ nI 1 = nI 0), kt_119, kt_126, kt_127, in_nI (show j + 1 < kl 127 by rw [kl_127]; omega) (by rw [kl_127]; omega), in_nI (show j + 1 < kl 126 by rw [kl_126]; omega) (by rw [kl_126]; omega), nI_clamp (show j + 1 < 2 ^ 31 by omega), htn (j + 1) (by omega) (by omega), hsn (j + 1) (by omega), c_turned hM hc (show 13 + (3 * psN c ht x j + ht (j + 1)) < 79 by have := hht (j + 1); omega), hT, nI_add, in_nI (show 5 + psN c ht x (j + 1) < kl 119 by rw [kl_119]; omega) (by rw [kl_119]; omega), nI_clamp (show 5 + psN c ht x (j + 1) < 2 ^ 31 by omega), hc _ (show 5 + psN c ht x (j + 1) < 79 by omega), he', ↓reduceIte, Option.toList_some, Option.toList_none, List.cons_append, List.nil_append]
        exact ih
    · have ho' : okN c hs ht x (k - 1) = false := by simpa using ho
      have hno : ¬ okN c hs ht x (h - 1) = true := by rw [okN_mono ho' (h - 1) (by omega)]; decide
      rw [if_neg hno] at kk
      simp only [w196_0, w196_1, w196_2, w196_3, w196_5, w196_6, w196_9, w196_10, w196_11, w196_14, w196_15, w196_18, w196_21, w196_22, w196_24, w196_25, w196_28, w196_29, w196_30, w196_31, w196_32, w196_33, w196_36, w196_37, w196_38, w196_41, w196_42, w196_45, w196_46, w196_48, w196_49, w196_53, w196_54, w196_57, w196_60, w196_62, w196_65, w196_66, w196_68, w196_69, w196_72, w196_74, w196_75, w196_78, w196_80, w196_81, w196_84, w196_85, w196_87, w196_88, w196_89, w196_90, w196_93, w196_95, w196_96, w196_99, w196_100, w196_103, w196_104, w196_106, w196_109, w196_112, w196_113, w196_115, w196_118, w196_119, w196_120, w196_123, w196_124, w196_127, w196_129, w196_130, w196_133, w196_134, w196_135, w196_136, w196_139, w196_142, w196_143, ks_118, h13, h2, ho', nI_or, Nat.or_zero, nI_add, ↓reduceIte, Option.toList_some, Option.toList_none, List.cons_append, List.nil_append, Bool.false_eq_true]
      exact kk _ _ _
theorem l_hereX {fb : Bool} {h : Nat} (hM : MR σ) (hc : MC σ c) (hw : WC c) (hH : MH σ h hs ht) (hh : h ≤ 9) (h1 : 1 ≤ h) (hhs : ∀ k, hs k < 6) (hht : ∀ k, ht k < 3) : ∀ (n x : Nat) (v4 v5 v6 : Option Value), x + n = c 0 → Wq none 196 4 [some (.ref (118 : Nat)), some (.int (nI (if fb = true then 1 else 0))), some (.int (nI (heB fb c hs ht (h - 1) x))), some (.int (nI x)), v4, v5, v6] [] σ Q = Q (some (.int (nI (heB fb c hs ht (h - 1) (c 0))))) σ := by
  obtain ⟨m0, m1, m2, m3, m5, m6, m8, m11, m12, m14, m22, m23, m24, m25, m29, m30, m31, m32⟩ := id hM
  obtain ⟨w0, w2, w3, w4, w5, w6, w7, w8, w9⟩ := id hw
  obtain ⟨h13, hsn, htn⟩ := id hH
  intro n
  induction n with
  | zero =>
    intro x v4 v5 v6 hx
    obtain rfl : x = c 0 := by omega
    have h2 : nI (c 0) ≤ nI (c 0) := nI_le (Nat.le_refl _) (by omega)
    rw [w196_4]
    simp only [w196_0, w196_1, w196_2, w196_3, w196_5, w196_6, w196_9, w196_10, w196_11, w196_14, w196_15, w196_18, w196_21, w196_22, w196_24, w196_25, w196_28, w196_29, w196_30, w196_31, w196_32, w196_33, w196_36, w196_37, w196_38, w196_41, w196_42, w196_45, w196_46, w196_48, w196_49, w196_53, w196_54, w196_57, w196_60, w196_62, w196_65, w196_66, w196_68, w196_69, w196_72, w196_74, w196_75, w196_78, w196_80, w196_81, w196_84, w196_85, w196_87, w196_88, w196_89, w196_90, w196_93, w196_95, w196_96, w196_99, w196_100, w196_103, w196_104, w196_106, w196_109, w196_112, w196_113, w196_115, w196_118, w196_119, w196_120, w196_123, w196_124, w196_127, w196_129, w196_130, w196_133, w196_134, w196_135, w196_136, w196_139, w196_142, w196_143, ks_118, m0, kt_119, in_nI (show 0 < kl 119 by rw [kl_119]; omega) (by rw [kl_119]; omega), nI_clamp (show 0 < 2 ^ 31 by omega), hc 0 (by omega), h2, ↓reduceIte, Option.toList_some, Option.toList_none, List.cons_append, List.nil_append]
  | succ n ih =>
    intro x v4 v5 v6 hx
    have h2 : ¬ nI (c 0) ≤ nI x := nI_ge (by omega) (by omega)
    have h3 : ¬ nI h ≤ nI 0 := nI_ge (by omega) (by omega)
    have hK := l_hereK (Q := Q) (fb := fb) (s := heB fb c hs ht (h - 1) x) (R := Q (some (.int (nI (heB fb c hs ht (h - 1) (c 0))))) σ) hM hc hw hH hh hhs hht (show x < c 0 by omega) (fun v4 v5 v6 => by
      have := ih (x + 1) v4 v5 v6 (by omega)
      rw [heB] at this
      exact this) (h - 1) 1 (by omega) (Nat.le_refl _)
    rw [show (1 : Nat) - 1 = 0 from rfl, show psN c ht x 0 = x from rfl] at hK
    have hb5 := w5 x (by omega)
    have hb6 : hs 0 < 6 := hhs 0
    rw [w196_4]
    by_cases he : c (5 + x) = hs 0
    · have hok : okN c hs ht x 0 = true := by simp [okN, he]
      rw [if_pos hok] at hK
      simp only [w196_0, w196_1, w196_2, w196_3, w196_5, w196_6, w196_9, w196_10, w196_11, w196_14, w196_15, w196_18, w196_21, w196_22, w196_24, w196_25, w196_28, w196_29, w196_30, w196_31, w196_32, w196_33, w196_36, w196_37, w196_38, w196_41, w196_42, w196_45, w196_46, w196_48, w196_49, w196_53, w196_54, w196_57, w196_60, w196_62, w196_65, w196_66, w196_68, w196_69, w196_72, w196_74, w196_75, w196_78, w196_80, w196_81, w196_84, w196_85, w196_87, w196_88, w196_89, w196_90, w196_93, w196_95, w196_96, w196_99, w196_100, w196_103, w196_104, w196_106, w196_109, w196_112, w196_113, w196_115, w196_118, w196_119, w196_120, w196_123, w196_124, w196_127, w196_129, w196_130, w196_133, w196_134, w196_135, w196_136, w196_139, w196_142, w196_143, ks_118, m0, m11, kt_119, kt_126, in_nI (show 0 < kl 119 by rw [kl_119]; omega) (by rw [kl_119]; omega), in_nI (show 0 < kl 126 by rw [kl_126]; omega) (by rw [kl_126]; omega), nI_clamp (show 0 < 2 ^ 31 by omega), hc 0 (by omega), h2, h13, h3, nI_add, in_nI (show 5 + x < kl 119 by rw [kl_119]; omega) (by rw [kl_119]; omega), nI_clamp (show 5 + x < 2 ^ 31 by omega), hc _ (show 5 + x < 79 by omega), hsn 0 (by omega), he, ↓reduceIte, Option.toList_some, Option.toList_none, List.cons_append, List.nil_append]
      exact hK
    · have hok : ¬ okN c hs ht x 0 = true := by simp [okN, he]
      have he' : ¬ nI (c (5 + x)) = nI (hs 0) := fun z => he (nI_inj (by omega) (by omega) z)
      rw [if_neg hok] at hK
      simp only [w196_0, w196_1, w196_2, w196_3, w196_5, w196_6, w196_9, w196_10, w196_11, w196_14, w196_15, w196_18, w196_21, w196_22, w196_24, w196_25, w196_28, w196_29, w196_30, w196_31, w196_32, w196_33, w196_36, w196_37, w196_38, w196_41, w196_42, w196_45, w196_46, w196_48, w196_49, w196_53, w196_54, w196_57, w196_60, w196_62, w196_65, w196_66, w196_68, w196_69, w196_72, w196_74, w196_75, w196_78, w196_80, w196_81, w196_84, w196_85, w196_87, w196_88, w196_89, w196_90, w196_93, w196_95, w196_96, w196_99, w196_100, w196_103, w196_104, w196_106, w196_109, w196_112, w196_113, w196_115, w196_118, w196_119, w196_120, w196_123, w196_124, w196_127, w196_129, w196_130, w196_133, w196_134, w196_135, w196_136, w196_139, w196_142, w196_143, ks_118, m0, m11, kt_119, kt_126, in_nI (show 0 < kl 119 by rw [kl_119]; omega) (by rw [kl_119]; omega), in_nI (show 0 < kl 126 by rw [kl_126]; omega) (by rw [kl_126]; omega), nI_clamp (show 0 < 2 ^ 31 by omega), hc 0 (by omega), h2, h13, h3, nI_add, in_nI (show 5 + x < kl 119 by rw [kl_119]; omega) (by rw [kl_119]; omega), nI_clamp (show 5 + x < 2 ^ 31 by omega), hc _ (show 5 + x < 79 by omega), hsn 0 (by omega), he', ↓reduceIte, Option.toList_some, Option.toList_none, List.cons_append, List.nil_append]
      exact hK
theorem c_mHere {fb : Bool} {h : Nat} (hM : MR σ) (hc : MC σ c) (hw : WC c) (hH : MH σ h hs ht) (hh : h ≤ 9) (hhs : ∀ k, hs k < 6) (hht : ∀ k, ht k < 3) : Cq 196 [(.ref (118 : Nat)), .int (nI (if fb = true then 1 else 0))] σ Q = Q (some (.int (nI (if h = 0 then 0 else heB fb c hs ht (h - 1) (c 0))))) σ := by
  obtain ⟨m0, m1, m2, m3, m5, m6, m8, m11, m12, m14, m22, m23, m24, m25, m29, m30, m31, m32⟩ := id hM
  obtain ⟨w0, w2, w3, w4, w5, w6, w7, w8, w9⟩ := id hw
  refine Cq_of (Er_of ?_)
  show Wq none 196 0 [some (.ref (118 : Nat)), some (.int (nI (if fb = true then 1 else 0))), none, none, none, none, none] [] _ _
  by_cases h0 : h = 0
  · subst h0
    by_cases hN : c 0 = 0
    · have h2 : nI (c 0) ≤ nI 0 := by rw [hN]; decide
      simp only [w196_0, w196_1, w196_2, w196_3, w196_4, w196_5, w196_6, w196_9, w196_10, w196_11, w196_14, w196_15, w196_18, w196_21, w196_22, w196_24, w196_25, w196_28, w196_29, w196_30, w196_31, w196_32, w196_33, w196_36, w196_37, w196_38, w196_41, w196_42, w196_45, w196_46, w196_48, w196_49, w196_53, w196_54, w196_57, w196_60, w196_62, w196_65, w196_66, w196_68, w196_69, w196_72, w196_74, w196_75, w196_78, w196_80, w196_81, w196_84, w196_85, w196_87, w196_88, w196_89, w196_90, w196_93, w196_95, w196_96, w196_99, w196_100, w196_103, w196_104, w196_106, w196_109, w196_112, w196_113, w196_115, w196_118, w196_119, w196_120, w196_123, w196_124, w196_127, w196_129, w196_130, w196_133, w196_134, w196_135, w196_136, w196_139, w196_142, w196_143, ks_118, m0, kt_119, in_nI (show 0 < kl 119 by rw [kl_119]; omega) (by rw [kl_119]; omega), nI_clamp (show 0 < 2 ^ 31 by omega), hc 0 (by omega), h2, ↓reduceIte, Option.toList_some, Option.toList_none, List.cons_append, List.nil_append, and_self]
    · have h2 : ¬ nI (c 0) ≤ nI 0 := nI_ge (by omega) (by omega)
      simp only [w196_0, w196_1, w196_2, w196_3, w196_4, w196_5, w196_6, w196_9, w196_10, w196_11, w196_14, w196_15, w196_18, w196_21, w196_22, w196_24, w196_25, w196_28, w196_29, w196_30, w196_31, w196_32, w196_33, w196_36, w196_37, w196_38, w196_41, w196_42, w196_45, w196_46, w196_48, w196_49, w196_53, w196_54, w196_57, w196_60, w196_62, w196_65, w196_66, w196_68, w196_69, w196_72, w196_74, w196_75, w196_78, w196_80, w196_81, w196_84, w196_85, w196_87, w196_88, w196_89, w196_90, w196_93, w196_95, w196_96, w196_99, w196_100, w196_103, w196_104, w196_106, w196_109, w196_112, w196_113, w196_115, w196_118, w196_119, w196_120, w196_123, w196_124, w196_127, w196_129, w196_130, w196_133, w196_134, w196_135, w196_136, w196_139, w196_142, w196_143, ks_118, m0, kt_119, in_nI (show 0 < kl 119 by rw [kl_119]; omega) (by rw [kl_119]; omega), nI_clamp (show 0 < 2 ^ 31 by omega), hc 0 (by omega), h2, hH.1, (by decide : nI 0 ≤ nI 0), ↓reduceIte, Option.toList_some, Option.toList_none, List.cons_append, List.nil_append, and_self]
  · simp only [h0, ↓reduceIte]
    have h3 := l_hereX (Q := fun r' σ2 => r' = some (.int (nI (heB fb c hs ht (h - 1) (c 0)))) ∧ σ2 = σ) (fb := fb) hM hc hw hH hh (by omega) hhs hht (c 0) 0 none none none (by omega)
    rw [show heB fb c hs ht (h - 1) 0 = 0 from rfl] at h3
    simp only [w196_0, w196_1, w196_2, w196_3, w196_5, w196_6, w196_9, w196_10, w196_11, w196_14, w196_15, w196_18, w196_21, w196_22, w196_24, w196_25, w196_28, w196_29, w196_30, w196_31, w196_32, w196_33, w196_36, w196_37, w196_38, w196_41, w196_42, w196_45, w196_46, w196_48, w196_49, w196_53, w196_54, w196_57, w196_60, w196_62, w196_65, w196_66, w196_68, w196_69, w196_72, w196_74, w196_75, w196_78, w196_80, w196_81, w196_84, w196_85, w196_87, w196_88, w196_89, w196_90, w196_93, w196_95, w196_96, w196_99, w196_100, w196_103, w196_104, w196_106, w196_109, w196_112, w196_113, w196_115, w196_118, w196_119, w196_120, w196_123, w196_124, w196_127, w196_129, w196_130, w196_133, w196_134, w196_135, w196_136, w196_139, w196_142, w196_143, h3, ↓reduceIte, Option.toList_some, Option.toList_none, List.cons_append, List.nil_append, and_self]
end MHS
