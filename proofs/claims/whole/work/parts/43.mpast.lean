/-! the reference's past -/
section RE
variable {σ : dm_G} {Q : Option Value → dm_G → Prop}
/-- the first k words of the past moved by one state -/
def reL (σ : dm_G) (k : Nat) : dm_G := fun a b => if a = 122 ∧ b < k then .int (gi σ 122 (b + 22)) else σ a b
theorem reL_fld {k a b : Nat} (h : a ≠ 122) : reL σ k a b = σ a b := by
  unfold reL
  rw [if_neg (by omega)]
theorem reL_gi {k b : Nat} (h : k ≤ b) : gi (reL σ k) 122 b = gi σ 122 b := by
  unfold gi reL
  rw [if_neg (by omega)]
/-- what remember leaves where u states are kept, u at most 15 -/
def reF (σ : dm_G) (u : Nat) : dm_G := dm_up (cpL σ 121 0 122 (22 * u) 22) 118 4 (.int (nI (u + 1)))
theorem l_re49 {u : Nat} {v : Option Value} (hM : MR σ) (hu : σ 118 4 = .int (nI u)) (h15 : u ≤ 15) : Wq none 165 49 [some (.ref (118 : Nat)), v] [] σ Q = Q none (reF σ u) := by
  obtain ⟨m0, m1, m2, m3, m5, m6, m8, m11, m12, m14, m22, m23, m24, m25, m29, m30, m31, m32⟩ := id hM
  have e : cpL σ 121 0 122 (22 * u) 22 118 4 = .int (nI u) := by
    unfold cpL
    rw [if_neg (by omega), hu]
  have h2 : nI 22 * nI u = nI (22 * u) := pk_mul 22 u
  rw [w165_49]
  simp only [w165_0, w165_1, w165_4, w165_6, w165_9, w165_10, w165_12, w165_15, w165_18, w165_19, w165_22, w165_23, w165_24, w165_27, w165_28, w165_30, w165_31, w165_32, w165_33, w165_36, w165_39, w165_40, w165_40i, w165_41, w165_44, w165_45, w165_46, w165_50, w165_53, w165_54, w165_55, w165_58, w165_60, w165_61, w165_64, w165_65, w165_67, w165_70, w165_71, w165_71i, w165_72, w165_75, w165_76, w165_77, w165_80, ks_118, m2, m3, hu, h2, c_copies (σ := σ) (A := 121) (i := 0) (B := 122) (j := 22 * u) (m := 22) kt_121 kt_122 (by rw [kl_121]; omega) (by rw [kl_122]; omega) (by decide) (by rw [kl_121]; omega) (by rw [kl_122]; omega), e, nI_add, ↓reduceIte, Option.toList_some, Option.toList_none, List.cons_append, List.nil_append]
  rfl
theorem l_re11 (hM : MR σ) (hu : σ 118 4 = .int (nI 16)) : ∀ (f k : Nat), k + f = 330 → Wq none 165 11 [some (.ref (118 : Nat)), some (.int (nI k))] [] (reL σ k) Q = Q none (reF (dm_up (reL σ 330) 118 4 (.int (nI 15))) 15) := by
  intro f
  induction f with
  | zero =>
    intro k hk
    obtain rfl : k = 330 := by omega
    have hM' : MR (dm_up (reL σ 330) 118 4 (.int (nI 15))) := hM
    have hu' : dm_up (reL σ 330) 118 4 (.int (nI 15)) 118 4 = .int (nI 15) := rfl
    have h4 := l_re49 (Q := Q) (v := some (.int (nI 330))) hM' hu' (by decide)
    rw [w165_11]
    simp only [w165_0, w165_1, w165_4, w165_6, w165_9, w165_10, w165_12, w165_15, w165_18, w165_19, w165_22, w165_23, w165_24, w165_27, w165_28, w165_30, w165_31, w165_32, w165_33, w165_36, w165_39, w165_40, w165_40i, w165_41, w165_44, w165_45, w165_46, w165_50, w165_53, w165_54, w165_55, w165_58, w165_60, w165_61, w165_64, w165_65, w165_67, w165_70, w165_71, w165_71i, w165_72, w165_75, w165_76, w165_77, w165_80, ks_118, (by decide : nI 330 ≤ nI 330), reL_fld (show 118 ≠ 122 by decide), hu, (by decide : nI 16 - nI 1 = nI 15), h4, ↓reduceIte, Option.toList_some, Option.toList_none, List.cons_append, List.nil_append]
  | succ f ih =>
    intro k hk
    obtain ⟨m0, m1, m2, m3, m5, m6, m8, m11, m12, m14, m22, m23, m24, m25, m29, m30, m31, m32⟩ := id hM
    have h1 : ¬ nI 330 ≤ nI k := nI_ge (by omega) (by omega)
    have ih := ih (k + 1) (by omega)
    have l1 : kl 122 < 2 ^ 31 := by rw [kl_122]; omega
    have k1 : k < kl 122 := by rw [kl_122]; omega
    have k2 : k + 22 < kl 122 := by rw [kl_122]; omega
    have e : dm_up (reL σ k) 122 k (.int (gi σ 122 (k + 22))) = reL σ (k + 1) := by
      funext a b
      simp only [dm_up, reL]
      by_cases ha : a = 122
      · subst ha
        by_cases hb : b = k
        · subst hb; simp
        · have : (b < k + 1) = (b < k) := by apply propext; omega
          simp [hb, this]
      · simp only [ha, false_and, if_false]
    rw [w165_11]
    simp only [w165_0, w165_1, w165_4, w165_6, w165_9, w165_10, w165_12, w165_15, w165_18, w165_19, w165_22, w165_23, w165_24, w165_27, w165_28, w165_30, w165_31, w165_32, w165_33, w165_36, w165_39, w165_40, w165_40i, w165_41, w165_44, w165_45, w165_46, w165_50, w165_53, w165_54, w165_55, w165_58, w165_60, w165_61, w165_64, w165_65, w165_67, w165_70, w165_71, w165_71i, w165_72, w165_75, w165_76, w165_77, w165_80, ks_118, h1, reL_fld (show 118 ≠ 122 by decide), m3, kt_122, nI_add, in_nI k1 l1, in_nI k2 l1, nI_clamp (show k < 2 ^ 31 by omega), nI_clamp (show k + 22 < 2 ^ 31 by omega), reL_gi (show k ≤ k + 22 by omega), e, ↓reduceIte, Option.toList_some, Option.toList_none, List.cons_append, List.nil_append]
    exact ih
theorem c_remember {u : Nat} (hM : MR σ) (hu : σ 118 4 = .int (nI u)) (h16 : u ≤ 16) : Cq 165 [(.ref (118 : Nat))] σ Q = Q none (if u = 16 then reF (dm_up (reL σ 330) 118 4 (.int (nI 15))) 15 else reF σ u) := by
  by_cases e : u = 16
  · subst e
    rw [if_pos rfl]
    refine Cq_of (Er_of ?_)
    show Wq none 165 0 [some (.ref (118 : Nat)), none] [] σ _
    have h1 := l_re11 (Q := fun r' σ2 => r' = none ∧ σ2 = reF (dm_up (reL σ 330) 118 4 (.int (nI 15))) 15) hM hu 330 0 (by omega)
    have h2 : reL σ 0 = σ := by
      funext a b
      unfold reL
      rw [if_neg (by omega)]
    rw [h2] at h1
    simp only [w165_0, w165_1, w165_4, w165_6, w165_9, w165_10, w165_12, w165_15, w165_18, w165_19, w165_22, w165_23, w165_24, w165_27, w165_28, w165_30, w165_31, w165_32, w165_33, w165_36, w165_39, w165_40, w165_40i, w165_41, w165_44, w165_45, w165_46, w165_50, w165_53, w165_54, w165_55, w165_58, w165_60, w165_61, w165_64, w165_65, w165_67, w165_70, w165_71, w165_71i, w165_72, w165_75, w165_76, w165_77, w165_80, ks_118, hu, h1, ↓reduceIte, Option.toList_some, Option.toList_none, List.cons_append, List.nil_append, and_self]
  · rw [if_neg e]
    refine Cq_of (Er_of ?_)
    show Wq none 165 0 [some (.ref (118 : Nat)), none] [] σ _
    have h1 : ¬ nI u = nI 16 := fun z => e (nI_inj (by omega) (by omega) z)
    have h4 := l_re49 (Q := fun r' σ2 => r' = none ∧ σ2 = reF σ u) (v := none) hM hu (by omega)
    simp only [w165_0, w165_1, w165_4, w165_6, w165_9, w165_10, w165_12, w165_15, w165_18, w165_19, w165_22, w165_23, w165_24, w165_27, w165_28, w165_30, w165_31, w165_32, w165_33, w165_36, w165_39, w165_40, w165_40i, w165_41, w165_44, w165_45, w165_46, w165_50, w165_53, w165_54, w165_55, w165_58, w165_60, w165_61, w165_64, w165_65, w165_67, w165_70, w165_71, w165_71i, w165_72, w165_75, w165_76, w165_77, w165_80, ks_118, hu, h1, h4, ↓reduceIte, Option.toList_some, Option.toList_none, List.cons_append, List.nil_append, and_self]
end RE
