/-! heads judged -/
def wrN (n bg bx : Nat → Nat) (k : Nat) : Bool := decide (n (bg k) ≠ bx k)
section JG
variable {σ : dm_G} {n bg bx : Nat → Nat} {m : Nat} {Q : Option Value → dm_G → Prop}
theorem l_firstWrong {G : Nat} (hN : CN σ 24 G n) (hG : G ≤ 6) (hb : CBk σ m bg bx) (hm : m ≤ 15) (hg : ∀ i, i < m → bg i < G ∧ n (bg i) < 2 ^ 31 ∧ bx i < 2 ^ 31) : ∀ (f k : Nat), k + f = m → Wq none 3 2 [some (.ref (107 : Nat)), some (.ref (24 : Nat)), some (.int (nI k))] [] σ Q = Q (some (.int (oI (fnd (wrN n bg bx) f k)))) σ := by
  obtain ⟨⟨kS, ⟨u1, m1⟩, ⟨u2, m2⟩, ⟨u3, m3⟩⟩, ⟨q0, q1, q2⟩, ⟨j3, j4, j5, j6⟩, jf⟩ := id hN
  obtain ⟨b0, b1, b2, b3⟩ := hb
  intro f
  induction f with
  | zero =>
    intro k hk
    obtain rfl : k = m := by omega
    have h1 : nI k ≤ nI k := nI_le (Nat.le_refl _) (by omega)
    rw [w3_2]
    simp only [w3_0, w3_1, w3_3, w3_4, w3_7, w3_10, w3_11, w3_14, w3_15, w3_18, w3_19, w3_22, w3_25, w3_26, w3_29, w3_30, w3_33, w3_36, w3_37, w3_38, w3_41, w3_44, w3_45, ks_107, b0, h1, fnd, oI, ↓reduceIte, Option.toList_some, Option.toList_none, List.cons_append, List.nil_append]
  | succ f ih =>
    intro k hk
    have h1 : ¬ nI m ≤ nI k := nI_ge (by omega) (by omega)
    have ih := ih (k + 1) (by omega)
    obtain ⟨g1, g2, g3⟩ := hg k (by omega)
    have k1 : k < kl 108 := by rw [kl_108]; omega
    have k2 : k < kl 109 := by rw [kl_109]; omega
    have k3 : bg k < kl (24 + 1) := by rw [m1]; omega
    have l1 : kl 108 < 2 ^ 31 := by rw [kl_108]; omega
    have l2 : kl 109 < 2 ^ 31 := by rw [kl_109]; omega
    have he := nI_eq g2 g3
    rw [w3_2]
    by_cases h : n (bg k) = bx k
    · have hf : wrN n bg bx k = false := decide_eq_false (fun z => z h)
      simp only [w3_0, w3_1, w3_3, w3_4, w3_7, w3_10, w3_11, w3_14, w3_15, w3_18, w3_19, w3_22, w3_25, w3_26, w3_29, w3_30, w3_33, w3_36, w3_37, w3_38, w3_41, w3_44, w3_45, ks_107, kS, b0, b1, b2, q0, h1, c_at kt_108 k1 l1, c_at kt_109 k2 l2, (b3 k (by omega)).1, (b3 k (by omega)).2, c_at u1 k3 (by omega), (jf (bg k) g1).1, he, h, nI_add, fnd, hf, ↓reduceIte, Option.toList_some, Option.toList_none, List.cons_append, List.nil_append, Bool.false_eq_true]
      exact ih
    · have hf : wrN n bg bx k = true := decide_eq_true h
      simp only [w3_0, w3_1, w3_3, w3_4, w3_7, w3_10, w3_11, w3_14, w3_15, w3_18, w3_19, w3_22, w3_25, w3_26, w3_29, w3_30, w3_33, w3_36, w3_37, w3_38, w3_41, w3_44, w3_45, ks_107, kS, b0, b1, b2, q0, h1, c_at kt_108 k1 l1, c_at kt_109 k2 l2, (b3 k (by omega)).1, (b3 k (by omega)).2, c_at u1 k3 (by omega), (jf (bg k) g1).1, he, h, fnd, hf, oI, ↓reduceIte, Option.toList_some, Option.toList_none, List.cons_append, List.nil_append]
theorem c_firstWrong {G : Nat} (hN : CN σ 24 G n) (hG : G ≤ 6) (hb : CBk σ m bg bx) (hm : m ≤ 15) (hg : ∀ i, i < m → bg i < G ∧ n (bg i) < 2 ^ 31 ∧ bx i < 2 ^ 31) : Cq 3 [(.ref (107 : Nat)), (.ref (24 : Nat))] σ Q = Q (some (.int (oI (fnd (wrN n bg bx) m 0)))) σ := by
  refine Cq_of (Er_of ?_)
  show Wq none 3 0 [some (.ref (107 : Nat)), some (.ref (24 : Nat)), none] [] σ _
  have h3 := l_firstWrong (Q := fun r' σ2 => r' = some (.int (oI (fnd (wrN n bg bx) m 0))) ∧ σ2 = σ) hN hG hb hm hg m 0 (by omega)
  simp only [w3_0, w3_1, w3_3, w3_4, w3_7, w3_10, w3_11, w3_14, w3_15, w3_18, w3_19, w3_22, w3_25, w3_26, w3_29, w3_30, w3_33, w3_36, w3_37, w3_38, w3_41, w3_44, w3_45, h3, and_self]
end JG
