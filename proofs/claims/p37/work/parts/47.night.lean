/-! the class's nights -/
section BN
variable {σ : dm_G} {P D : Nat} {c n : Nat → Nat} {Q : Option Value → dm_G → Prop}
/-- what keepAhead leaves: the next place u, k kept -/
def kaF (σ : dm_G) (u k : Nat) : dm_G := dm_up (dm_up (beF (30 + 4 * u) 24 σ) 28 1 (.int (nI ((u + 1) % 16)))) 28 2 (.int (nI (min (k + 1) 16)))
theorem kaF_cell {u k a b : Nat} (hu : u < 16) (h1 : a < 28) : kaF σ u k a b = σ a b := by
  unfold kaF
  rw [up_get, if_neg (by omega), up_get, if_neg (by omega)]
  unfold beF
  rw [if_neg (by omega), if_neg (by omega)]
theorem kaF_gi {u k a b : Nat} (hu : u < 16) (h1 : a < 28) : gi (kaF σ u k) a b = gi σ a b := by
  unfold gi
  rw [kaF_cell hu h1]
theorem kaF_CN {u k G : Nat} (hu : u < 16) (hN : CN σ 24 G n) : CN (kaF σ u k) 24 G n := by
  obtain ⟨kS, ⟨q0, q1, q2⟩, ⟨j3, j4, j5, j6⟩, jf⟩ := hN
  refine ⟨kS, ⟨?_, ?_, ?_⟩, ⟨?_, ?_, ?_, ?_⟩, ?_⟩
  all_goals first | (rw [kaF_cell hu (by omega)]; assumption) | skip
  intro g hg
  rw [kaF_gi hu (by omega), kaF_gi hu (by omega), kaF_gi hu (by omega)]
  exact jf g hg
theorem c_night_r {j : Nat} (hB : BR σ P D) (hC : CC σ P c) (hN : CN σ 24 (c 2) n) (hw : WC c) (h20 : n 20 < 2 ^ 31) (h1 : 1 ≤ j) (h2 : j ≤ 60) (hr : ¬ rfN c n = nI 0) : Cq 86 [(.ref (0 : Nat)), .int (nI j)] σ Q = Q (some (.int (rfN c n))) σ := by
  refine Cq_of (Er_of ?_)
  show Wq none 86 0 [some (.ref (0 : Nat)), some (.int (nI j)), none] [] _ _
  simp only [w86_0, w86_1, w86_2, w86_5, w86_6, w86_7, w86_10, w86_11, w86_12, w86_13, w86_16, w86_17, w86_20, w86_23, w86_24, w86_27, w86_28, w86_31, w86_32, w86_35, w86_38, ks_0, c_refusal hB hC hN hw h20 h1 h2, hr, ↓reduceIte, Option.toList_some, Option.toList_none, List.cons_append, List.nil_append, and_self]
theorem c_night_f {x : Int32} (hx : ¬ ∃ j, 1 ≤ j ∧ j ≤ 60 ∧ x = nI j) : Cq 86 [(.ref (0 : Nat)), .int x] σ Q = Q (some (.int (-1000000002))) σ := by
  refine Cq_of (Er_of ?_)
  show Wq none 86 0 [some (.ref (0 : Nat)), some (.int x), none] [] _ _
  simp only [w86_0, w86_1, w86_2, w86_5, w86_6, w86_7, w86_10, w86_11, w86_12, w86_13, w86_16, w86_17, w86_20, w86_23, w86_24, w86_27, w86_28, w86_31, w86_32, w86_35, w86_38, ks_0, c_refusal_f hx, (by decide : ¬ (-1000000002 : Int32) = nI 0), ↓reduceIte, Option.toList_some, Option.toList_none, List.cons_append, List.nil_append, and_self]
theorem c_night {j u k : Nat} (hB : BR σ P D) (hC : CC σ P c) (hN : CN σ 24 (c 2) n) (hw : WC c) (h20 : n 20 < 2 ^ 31) (h1 : 1 ≤ j) (h2 : j ≤ 60) (hP : CP σ u k) (hu : u < 16) (hk : k ≤ 16) (hS : ∀ i, i < 16 → SK (30 + 4 * i) ∧ SR σ (30 + 4 * i)) (hr : rfN c n = nI 0) : Cq 86 [(.ref (0 : Nat)), .int (nI j)] σ Q = Q (some (.int (nI (n 20 + j)))) (dm_up (dm_up (kaF σ u k) 24 5 (.int (nI (n 20 + j)))) 24 4 (.int (nI 0))) := by
  obtain ⟨b0, b3, b4, b5, b6, b7, b8, b9, b10, b11, b12⟩ := id hB
  obtain ⟨kS, rS, ⟨j3, j4, j5, j6⟩, jf⟩ := id hN
  refine Cq_of (Er_of ?_)
  show Wq none 86 0 [some (.ref (0 : Nat)), some (.int (nI j)), none] [] _ _
  have hN' := kaF_CN (k := k) hu hN
  have hk' := c_keepAhead (Q := fun r σ3 => Wq none 86 23 [some (.ref (0 : Nat)), some (.int (nI j)), some (.int (nI 0))] (r.toList ++ []) σ3 (fun r' σ2 => r' = some (.int (nI (n 20 + j))) ∧ σ2 = dm_up (dm_up (kaF σ u k) 24 5 (.int (nI (n 20 + j)))) 24 4 (.int (nI 0)))) hP hu hk kS rS hS ⟨_, _, _, _, j3, j4, j5, j6⟩
  have e1 : kaF σ u k 0 5 = (.ref (24 : Nat)) := by rw [kaF_cell hu (by omega), b6]
  have e2 : dm_up (dm_up (kaF σ u k) 24 5 (.int (nI (n 20 + j)))) 24 4 (.int (nI 0)) 0 5 = (.ref (24 : Nat)) := by rw [up_get, if_neg (by omega), up_get, if_neg (by omega), e1]
  have e3 : dm_up (dm_up (kaF σ u k) 24 5 (.int (nI (n 20 + j)))) 24 4 (.int (nI 0)) 24 5 = .int (nI (n 20 + j)) := by rw [up_get, if_neg (by omega), up_get, if_pos ⟨rfl, rfl⟩]
  simp only [w86_0, w86_1, w86_2, w86_5, w86_6, w86_7, w86_10, w86_11, w86_12, w86_13, w86_16, w86_17, w86_20, w86_24, w86_27, w86_28, w86_31, w86_32, w86_35, w86_38, ks_0, ks_28, b6, b7, c_refusal hB hC hN hw h20 h1 h2, hr, ↓reduceIte, Option.toList_some, Option.toList_none, List.cons_append, List.nil_append]
  simp only [↓reduceIte, Option.toList_some, Option.toList_none, List.cons_append, List.nil_append] at hk'
  rw [hk']
  show Wq none 86 23 [some (.ref (0 : Nat)), some (.int (nI j)), some (.int (nI 0))] [] (kaF σ u k) _
  simp only [w86_0, w86_1, w86_2, w86_5, w86_6, w86_7, w86_10, w86_11, w86_12, w86_13, w86_16, w86_17, w86_20, w86_23, w86_24, w86_27, w86_28, w86_31, w86_32, w86_35, w86_38, ks_0, kS.1, e1, c_passNights hN', e2, e3, ↓reduceIte, Option.toList_some, Option.toList_none, List.cons_append, List.nil_append, and_self]
end BN
