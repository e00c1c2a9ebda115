/-! undone: both sides as calls -/
section UN
variable {σ : dm_G} {P D : Nat} {Q : Option Value → dm_G → Prop}
theorem c_undo0 {u : Nat} (hB : BR σ P D) (hP : CP σ u 0) : Cq 93 [(.ref (0 : Nat))] σ Q = Q (some (.int (-1000000003))) σ := by
  obtain ⟨b0, b3, b4, b5, b6, b7, b8, b9, b10, b11, b12⟩ := id hB
  obtain ⟨p0, p1, p2, p3⟩ := hP
  refine Cq_of (Er_of ?_)
  show Wq none 93 0 [some (.ref (0 : Nat))] [] σ _
  simp only [w93_0, w93_1, w93_4, w93_7, w93_10, w93_12, w93_13, w93_14, w93_17, w93_18, w93_21, w93_24, w93_25, w93_28, w93_31, ks_0, ks_28, b7, p2, ↓reduceIte, Option.toList_some, Option.toList_none, List.cons_append, List.nil_append, and_self]
/-- what the class's undo leaves -/
def ubF (σ : dm_G) (u k : Nat) : dm_G := beF 24 (30 + 4 * ((u + 15) % 16)) (dm_up (dm_up σ 28 1 (.int (nI ((u + 15) % 16)))) 28 2 (.int (nI k)))
theorem c_undo {u k : Nat} (hB : BR σ P D) (hP : CP σ u (k + 1)) (hu : u < 16) (hk : k < 16) (hN : SK 24) (rN : SR σ 24) (hS : ∀ i, i < 16 → SK (30 + 4 * i) ∧ SR σ (30 + 4 * i)) (iN : ∃ x3 x4 x5 x6 : Int32, σ (30 + 4 * ((u + 15) % 16)) 3 = .int x3 ∧ σ (30 + 4 * ((u + 15) % 16)) 4 = .int x4 ∧ σ (30 + 4 * ((u + 15) % 16)) 5 = .int x5 ∧ σ (30 + 4 * ((u + 15) % 16)) 6 = .int x6) : Cq 93 [(.ref (0 : Nat))] σ Q = Q (some (.int (nI k))) (ubF σ u k) := by
  obtain ⟨b0, b3, b4, b5, b6, b7, b8, b9, b10, b11, b12⟩ := id hB
  obtain ⟨p0, p1, p2, p3⟩ := id hP
  refine Cq_of (Er_of ?_)
  show Wq none 93 0 [some (.ref (0 : Nat))] [] σ _
  have h1 : ¬ nI (k + 1) = nI 0 := fun z => by
    have := nI_inj (by omega) (by omega) z
    omega
  have e1 : ∀ w, beF 24 (30 + 4 * w) (dm_up (dm_up σ 28 1 (.int (nI w))) 28 2 (.int (nI k))) 0 6 = (.ref (28 : Nat)) := fun w => by
    unfold beF
    rw [if_neg (by omega), if_neg (by omega), up_get, if_neg (by omega), up_get, if_neg (by omega), b7]
  have e2 : ∀ w, beF 24 (30 + 4 * w) (dm_up (dm_up σ 28 1 (.int (nI w))) 28 2 (.int (nI k))) 28 2 = .int (nI k) := fun w => by
    unfold beF
    rw [if_neg (by omega), if_neg (by omega), up_get, if_pos ⟨rfl, rfl⟩]
  simp only [w93_0, w93_1, w93_4, w93_7, w93_10, w93_12, w93_13, w93_14, w93_17, w93_18, w93_21, w93_24, w93_25, w93_28, w93_31, ks_0, ks_28, b6, b7, p2, h1, c_pastBack hP hu hk hN rN hS iN, e1, e2, ↓reduceIte, Option.toList_some, Option.toList_none, List.cons_append, List.nil_append]
  exact ⟨trivial, rfl⟩
end UN
