/-! heads judged -/
/-- the reference's book -/
def MB (σ : dm_G) (m : Nat) (bg bx : Nat → Nat) : Prop := σ 118 15 = .int (nI m) ∧ ∀ i, i < m → gi σ 128 (2 * i) = nI (bg i) ∧ gi σ 128 (2 * i + 1) = nI (bx i)
def wrN (n bg bx : Nat → Nat) (k : Nat) : Bool := decide (n (bg k) ≠ bx k)
section JG
variable {σ : dm_G} {n bg bx : Nat → Nat} {m : Nat} {Q : Option Value → dm_G → Prop}
theorem l_judge (hM : MR σ) (hn : MN σ n) (hb : MB σ m bg bx) (hm : m ≤ 15) (hg : ∀ i, i < m → bg i < 6 ∧ n (bg i) < 2 ^ 31 ∧ bx i < 2 ^ 31) : ∀ (f k : Nat), k + f = m → Wq none 203 2 [some (.ref (118 : Nat)), some (.int (nI k))] [] σ Q = Q (some (.int (oI (fnd (wrN n bg bx) f k)))) σ := by
  obtain ⟨m0, m1, m2, m3, m5, m6, m8, m11, m12, m14, m22, m23, m24, m25, m29, m30, m31, m32⟩ := id hM
  obtain ⟨b1, b2⟩ := hb
  intro f
  induction f with
  | zero =>
    intro k hk
    obtain rfl : k = m := by omega
    have h1 : nI k ≤ nI k := nI_le (Nat.le_refl _) (by omega)
    rw [w203_2]
    simp only [w203_0, w203_1, w203_3, w203_4, w203_7, w203_10, w203_11, w203_14, w203_15, w203_16, w203_19, w203_20, w203_21, w203_22, w203_23, w203_24, w203_25, w203_26, w203_29, w203_30, w203_31, w203_32, w203_33, w203_34, w203_35, w203_38, w203_39, w203_40, w203_43, w203_46, w203_47, ks_118, b1, h1, fnd, oI, ↓reduceIte, Option.toList_some, Option.toList_none, List.cons_append, List.nil_append]
  | succ f ih =>
    intro k hk
    have h1 : ¬ nI m ≤ nI k := nI_ge (by omega) (by omega)
    have ih := ih (k + 1) (by omega)
    obtain ⟨g1, g2, g3⟩ := hg k (by omega)
    have hk1 : 2 * k + 1 < kl 128 := by rw [kl_128]; omega
    have hl : kl 128 < 2 ^ 31 := by rw [kl_128]; omega
    have he := nI_eq g2 g3
    have h2 : nI 2 * nI k = nI (2 * k) := pk_mul 2 k
    rw [w203_2]
    by_cases h : n (bg k) = bx k
    · have hf : wrN n bg bx k = false := decide_eq_false (fun z => z h)
      simp only [w203_0, w203_1, w203_3, w203_4, w203_7, w203_10, w203_11, w203_14, w203_15, w203_16, w203_19, w203_20, w203_21, w203_22, w203_23, w203_24, w203_25, w203_26, w203_29, w203_30, w203_31, w203_32, w203_33, w203_34, w203_35, w203_38, w203_39, w203_40, w203_43, w203_46, w203_47, ks_118, b1, h1, m2, m14, kt_121, kt_128, nI_add, h2, in_nI (show 2 * k < kl 128 by omega) hl, in_nI hk1 hl, nI_clamp (show 2 * k < 2 ^ 31 by omega), nI_clamp (show 2 * k + 1 < 2 ^ 31 by omega), (b2 k (by omega)).1, (b2 k (by omega)).2, Nat.zero_add, in_nI (show bg k < kl 121 by rw [kl_121]; omega) (by rw [kl_121]; omega), nI_clamp (show bg k < 2 ^ 31 by omega), hn (bg k) (by omega), he, h, fnd, hf, ↓reduceIte, Option.toList_some, Option.toList_none, List.cons_append, List.nil_append, Bool.false_eq_true]
      exact ih
    · have hf : wrN n bg bx k = true := decide_eq_true h
      simp only [w203_0, w203_1, w203_3, w203_4, w203_7, w203_10, w203_11, w203_14, w203_15, w203_16, w203_19, w203_20, w203_21, w203_22, w203_23, w203_24, w203_25, w203_26, w203_29, w203_30, w203_31, w203_32, w203_33, w203_34, w203_35, w203_38, w203_39, w203_40, w203_43, w203_46, w203_47, ks_118, b1, h1, m2, m14, kt_121, kt_128, nI_add, h2, in_nI (show 2 * k < kl 128 by omega) hl, in_nI hk1 hl, nI_clamp (show 2 * k < 2 ^ 31 by omega), nI_clamp (show 2 * k + 1 < 2 ^ 31 by omega), (b2 k (by omega)).1, (b2 k (by omega)).2, Nat.zero_add, in_nI (show bg k < kl 121 by rw [kl_121]; omega) (by rw [kl_121]; omega), nI_clamp (show bg k < 2 ^ 31 by omega), hn (bg k) (by omega), he, h, fnd, hf, oI, ↓reduceIte, Option.toList_some, Option.toList_none, List.cons_append, List.nil_append]
theorem c_mJudge (hM : MR σ) (hn : MN σ n) (hb : MB σ m bg bx) (hm : m ≤ 15) (hg : ∀ i, i < m → bg i < 6 ∧ n (bg i) < 2 ^ 31 ∧ bx i < 2 ^ 31) : Cq 203 [(.ref (118 : Nat))] σ Q = Q (some (.int (oI (fnd (wrN n bg bx) m 0)))) σ := by
  refine Cq_of (Er_of ?_)
  show Wq none 203 0 [some (.ref (118 : Nat)), none] [] σ _
  have h3 := l_judge (Q := fun r' σ2 => r' = some (.int (oI (fnd (wrN n bg bx) m 0))) ∧ σ2 = σ) hM hn hb hm hg m 0 (by omega)
  simp only [w203_0, w203_1, w203_3, w203_4, w203_7, w203_10, w203_11, w203_14, w203_15, w203_16, w203_19, w203_20, w203_21, w203_22, w203_23, w203_24, w203_25, w203_26, w203_29, w203_30, w203_31, w203_32, w203_33, w203_34, w203_35, w203_38, w203_39, w203_40, w203_43, w203_46, w203_47, h3, and_self]
theorem l_firstWrong {G : Nat} (hN : CN σ 24 G n) (hG : G ≤ 6) (hb : CBk σ m bg bx) (hm : m ≤ 15) (hg : ∀ i, i < m → bg i < G ∧ n (bg i) < 2 ^ 31 ∧ bx i < 2 ^ 31) : ∀ (f k : Nat), k + f = m → Wq none 3 2 [some (.ref (107 : Nat)), some (.ref (24 : Nat)), some (.int (nI k))] [] σ Q = Q (some (.int (oI (fnd (wrN n bg bx) f k)))) σ := by
  obtain ⟨⟨kS, ⟨u1, m1⟩, ⟨u2, m2⟩, ⟨u3, m3⟩⟩, ⟨q0, q1, q2⟩, ⟨j3, j4, j5, j6⟩, jf⟩ := id hN
  obtain ⟨b0, b1, b2, b3⟩ := hb
  intro f
  induction f with
  | zero =>
    intro k hk
    obtain rfl : k = m := by omega
    have h1 : nI k ≤ nI k := nI_le (Nat.le_refl _) (by omega)
    rw [w3_2]
    simp only [w3_0, w3_1, w3_3, w3_4, w3_7, w3_10, w3_11, w3_14, w3_15, w3_18, w3_19, w3_22, w3_25, w3_26, w3_29, w3_30, w3_33, w3_36, w3_37, w3_38, w3_41, w3_44, w3_45, ks_107, b0, h1, fnd, oI, ↓reduceIte, Option.toList_some, Option.toList_none, List.cons_append, List.nil_append]
  | succ f ih =>
    intro k hk
    have h1 : ¬ nI m ≤ nI k := nI_ge (by omega) (by omega)
    have ih := ih (k + 1) (by omega)
    obtain ⟨g1, g2, g3⟩ := hg k (by omega)
    have k1 : k < kl 108 := by rw [kl_108]; omega
    have k2 : k < kl 109 := by rw [kl_109]; omega
    have k3 : bg k < kl (24 + 1) := by rw [m1]; omega
    have l1 : kl 108 < 2 ^ 31 := by rw [kl_108]; omega
    have l2 : kl 109 < 2 ^ 31 := by rw [kl_109]; omega
    have he := nI_eq g2 g3
    rw [w3_2]
    by_cases h : n (bg k) = bx k
    · have hf : wrN n bg bx k = false := decide_eq_false (fun z => z h)
      simp only [w3_0, w3_1, w3_3, w3_4, w3_7, w3_10, w3_11, w3_14, w3_15, w3_18, w3_19, w3_22, w3_25, w3_26, w3_29, w3_30, w3_33, w3_36, w3_37, w3_38, w3_41, w3_44, w3_45, ks_107, kS, b0, b1, b2, q0, h1, c_at kt_108 k1 l1, c_at kt_109 k2 l2, (b3 k (by omega)).1, (b3 k (by omega)).2, c_at u1 k3 (by omega), (jf (bg k) g1).1, he, h, nI_add, fnd, hf, ↓reduceIte, Option.toList_some, Option.toList_none, List.cons_append, List.nil_append, Bool.false_eq_true]
      exact ih
    · have hf : wrN n bg bx k = true := decide_eq_true h
      simp only [w3_0, w3_1, w3_3, w3_4, w3_7, w3_10, w3_11, w3_14, w3_15, w3_18, w3_19, w3_22, w3_25, w3_26, w3_29, w3_30, w3_33, w3_36, w3_37, w3_38, w3_41, w3_44, w3_45, ks_107, kS, b0, b1, b2, q0, h1, c_at kt_108 k1 l1, c_at kt_109 k2 l2, (b3 k (by omega)).1, (b3 k (by omega)).2, c_at u1 k3 (by omega), (jf (bg k) g1).1, he, h, fnd, hf, oI, ↓reduceIte, Option.toList_some, Option.toList_none, List.cons_append, List.nil_append]
theorem c_firstWrong {G : Nat} (hN : CN σ 24 G n) (hG : G ≤ 6) (hb : CBk σ m bg bx) (hm : m ≤ 15) (hg : ∀ i, i < m → bg i < G ∧ n (bg i) < 2 ^ 31 ∧ bx i < 2 ^ 31) : Cq 3 [(.ref (107 : Nat)), (.ref (24 : Nat))] σ Q = Q (some (.int (oI (fnd (wrN n bg bx) m 0)))) σ := by
  refine Cq_of (Er_of ?_)
  show Wq none 3 0 [some (.ref (107 : Nat)), some (.ref (24 : Nat)), none] [] σ _
  have h3 := l_firstWrong (Q := fun r' σ2 => r' = some (.int (oI (fnd (wrN n bg bx) m 0))) ∧ σ2 = σ) hN hG hb hm hg m 0 (by omega)
  simp only [w3_0, w3_1, w3_3, w3_4, w3_7, w3_10, w3_11, w3_14, w3_15, w3_18, w3_19, w3_22, w3_25, w3_26, w3_29, w3_30, w3_33, w3_36, w3_37, w3_38, w3_41, w3_44, w3_45, h3, and_self]
end JG
