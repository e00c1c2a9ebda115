/-! a state starts in a city -/
section SN
variable {σ : dm_G} {S P : Nat} {Q : Option Value → dm_G → Prop}
/-- where the cell S + i of a state has its words from: i = 1 stands, 2 knows, 3 nothing -/
def snV (S P : Nat) (σ : dm_G) (a b : Nat) : Int32 := if a = S + 1 then gi σ (P + 4) b else if a = S + 2 then gi σ (P + 6) b else nI 0
def snL (S P : Nat) (σ : dm_G) (g : Nat) : dm_G := fun a b => if (a = S + 1 ∨ a = S + 2 ∨ a = S + 3) ∧ b < g then .int (snV S P σ a b) else σ a b
def snF (S P : Nat) (σ : dm_G) : dm_G := fun a b => if (a = S + 1 ∨ a = S + 2 ∨ a = S + 3) ∧ b < 6 then .int (snV S P σ a b) else if a = S ∧ (3 ≤ b ∧ b ≤ 6) then .int (nI 0) else σ a b
theorem snL_gi {g a b : Nat} (h : a ≠ S + 1 ∧ a ≠ S + 2 ∧ a ≠ S + 3) : gi (snL S P σ g) a b = gi σ a b := by
  unfold gi snL
  rw [if_neg (by omega)]
theorem snL_fld {g a b : Nat} (h : a ≠ S + 1 ∧ a ≠ S + 2 ∧ a ≠ S + 3) : snL S P σ g a b = σ a b := by
  unfold snL
  rw [if_neg (by omega)]
theorem l_startIn (hS : SK S) (hP : CK P) (rS : SR σ S) (rP : CR σ P) (hd : P + 9 < S) : ∀ (k g : Nat), g + k = 6 → Wq none 67 2 [some (.ref S), some (.ref P), some (.int (nI g))] [] (snL S P σ g) Q = Q none (snF S P σ) := by
  obtain ⟨kS, ⟨u1, m1⟩, ⟨u2, m2⟩, ⟨u3, m3⟩⟩ := id hS
  obtain ⟨kP, ⟨t1, l1⟩, ⟨t2, l2⟩, ⟨t3, l3⟩, ⟨t4, l4⟩, ⟨t5, l5⟩, ⟨t6, l6⟩, ⟨t7, l7⟩, ⟨t8, l8⟩, ⟨t9, l9⟩⟩ := id hP
  obtain ⟨q0, q1, q2⟩ := id rS
  obtain ⟨r1, r2, r3, r4, r5, r6, r7, r8, r9⟩ := id rP
  intro k
  induction k with
  | zero =>
    intro g hg
    obtain rfl : g = 6 := by omega
    rw [w67_2]
    simp only [w67_0, w67_1, w67_3, w67_5, w67_8, w67_9, w67_12, w67_13, w67_14, w67_17, w67_18, w67_21, w67_24, w67_25, w67_28, w67_29, w67_30, w67_33, w67_34, w67_37, w67_40, w67_41, w67_44, w67_45, w67_46, w67_49, w67_52, w67_55, w67_56, w67_57, w67_60, w67_61, w67_62, w67_65, w67_66, w67_67, w67_70, w67_71, w67_72, w67_75, kS, (by decide : nI 6 ≤ nI 6), ↓reduceIte, Option.toList_some, Option.toList_none, List.cons_append, List.nil_append]
    congr 1
    funext a b
    unfold snF
    simp only [dm_up, snL]
    by_cases ha : a = S
    · subst ha
      have h0 : ¬ ((a = a + 1 ∨ a = a + 2 ∨ a = a + 3) ∧ b < 6) := by omega
      simp only [true_and, h0, if_false]
      by_cases h6 : b = 6
      · subst h6; simp
      · by_cases h5 : b = 5
        · subst h5; simp
        · by_cases h4 : b = 4
          · subst h4; simp
          · by_cases h3 : b = 3
            · subst h3; simp
            · have : ¬ (3 ≤ b ∧ b ≤ 6) := by omega
              simp only [h3, h4, h5, h6, this, if_false]
    · simp only [ha, false_and, if_false]
  | succ k ih =>
    intro g hg
    have h1 : ¬ nI 6 ≤ nI g := nI_ge (by omega) (by omega)
    have b1 : g < kl (S + 1) := by rw [m1]; omega
    have b2 : g < kl (S + 2) := by rw [m2]; omega
    have b3 : g < kl (S + 3) := by rw [m3]; omega
    have c1 : g < kl (P + 4) := by rw [l4]; omega
    have c2 : g < kl (P + 6) := by rw [l6]; omega
    have s1 : ¬ (S = S + 1) := by omega
    have s2 : ¬ (S = S + 2) := by omega
    have s3 : ¬ (S = S + 3) := by omega
    have o1 : ¬ (P = S + 1) := by omega
    have o2 : ¬ (P = S + 2) := by omega
    have o61 : ¬ (P + 6 = S + 1) := by omega
    rw [w67_2]
    simp only [w67_0, w67_1, w67_3, w67_5, w67_8, w67_9, w67_12, w67_13, w67_14, w67_17, w67_18, w67_21, w67_24, w67_25, w67_28, w67_29, w67_30, w67_33, w67_34, w67_37, w67_40, w67_41, w67_44, w67_45, w67_46, w67_49, w67_52, w67_55, w67_56, w67_57, w67_60, w67_61, w67_62, w67_65, w67_66, w67_67, w67_70, w67_71, w67_72, w67_75, kS, kP, h1, snL_fld (show P ≠ S + 1 ∧ P ≠ S + 2 ∧ P ≠ S + 3 by omega), snL_fld (show S ≠ S + 1 ∧ S ≠ S + 2 ∧ S ≠ S + 3 by omega), q0, q1, q2, r4, r6, up_get, gi_up, s1, s2, s3, o1, o2, o61, false_and, c_at t4 c1 (by omega), c_at t6 c2 (by omega), c_put u1 b1 (by omega), c_put u2 b2 (by omega), c_put u3 b3 (by omega), snL_gi (show P + 4 ≠ S + 1 ∧ P + 4 ≠ S + 2 ∧ P + 4 ≠ S + 3 by omega), snL_gi (show P + 6 ≠ S + 1 ∧ P + 6 ≠ S + 2 ∧ P + 6 ≠ S + 3 by omega), nI_add, ↓reduceIte, Option.toList_some, Option.toList_none, List.cons_append, List.nil_append]
    rw [← ih (g + 1) (by omega)]
    congr 1
    funext a b
    simp only [dm_up, snL, snV]
    by_cases a1 : a = S + 1
    · subst a1
      by_cases hb : b = g
      · subst hb; simp
      · have : (b < g + 1) = (b < g) := by apply propext; omega
        simp [hb, this]
    · by_cases a2 : a = S + 2
      · subst a2
        by_cases hb : b = g
        · subst hb; simp
        · have : (b < g + 1) = (b < g) := by apply propext; omega
          simp [hb, this]
      · by_cases a3 : a = S + 3
        · subst a3
          by_cases hb : b = g
          · subst hb; simp
          · have : (b < g + 1) = (b < g) := by apply propext; omega
            simp [hb, this]
        · simp [a1, a2, a3]
theorem c_startIn (hS : SK S) (hP : CK P) (rS : SR σ S) (rP : CR σ P) (hd : P + 9 < S) : Cq 67 [.ref S, .ref P] σ Q = Q none (snF S P σ) := by
  refine Cq_of (Er_of ?_)
  show Wq none 67 0 [some (.ref S), some (.ref P), none] [] σ _
  have h1 := l_startIn (Q := fun r' σ2 => r' = none ∧ σ2 = snF S P σ) hS hP rS rP hd 6 0 (by omega)
  have h2 : snL S P σ 0 = σ := by
    funext a b
    unfold snL
    rw [if_neg (by omega)]
  rw [h2] at h1
  simp only [w67_0, w67_1, w67_3, w67_5, w67_8, w67_9, w67_12, w67_13, w67_14, w67_17, w67_18, w67_21, w67_24, w67_25, w67_28, w67_29, w67_30, w67_33, w67_34, w67_37, w67_40, w67_41, w67_44, w67_45, w67_46, w67_49, w67_52, w67_55, w67_56, w67_57, w67_60, w67_61, w67_62, w67_65, w67_66, w67_67, w67_70, w67_71, w67_72, w67_75, h1, and_self]
end SN
