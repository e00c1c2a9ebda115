/-! what refuses nights -/
section RF
variable {σ : dm_G} {P D : Nat} {c n : Nat → Nat} {Q : Option Value → dm_G → Prop}
def rfN (c n : Nat → Nat) : Int32 := if c 0 = 0 then -1000000003 else if n 20 ≤ 9000 then nI 0 else -1000000004
theorem c_refusal {j : Nat} (hB : BR σ P D) (hC : CC σ P c) (hN : CN σ 24 (c 2) n) (hw : WC c) (h20 : n 20 < 2 ^ 31) (h1 : 1 ≤ j) (h2 : j ≤ 60) : Cq 94 [(.ref (0 : Nat)), .int (nI j)] σ Q = Q (some (.int (rfN c n))) σ := by
  obtain ⟨b0, b3, b4, b5, b6, b7, b8, b9, b10, b11, b12⟩ := id hB
  obtain ⟨kP, rP, ⟨i0, i2, i3, i4⟩, -⟩ := id hC
  obtain ⟨kS, rS, ⟨j3, j4, j5, j6⟩, jf⟩ := id hN
  obtain ⟨w0, -⟩ := id hw
  have kP := kP.1
  have kS := kS.1
  have a1 : ¬ nI j < nI 1 := fun z => by rw [Int32.lt_iff_toInt_lt, nI_toInt (by omega), nI_toInt (by omega)] at z; omega
  have a2 : nI j ≤ nI 60 := nI_le h2 (by omega)
  refine Cq_of (Er_of ?_)
  show Wq none 94 0 [some (.ref (0 : Nat)), some (.int (nI j))] [] _ _
  have g0 : nI (c 0) = nI 0 ↔ c 0 = 0 := nI_eq (by omega) (by omega)
  by_cases e : c 0 = 0
  · have hr : rfN c n = -1000000003 := if_pos e
    simp only [w94_0, w94_1, w94_2, w94_5, w94_6, w94_8, w94_11, w94_13, w94_14, w94_15, w94_18, w94_21, w94_24, w94_26, w94_27, w94_28, w94_31, w94_34, w94_37, w94_40, w94_42, w94_45, w94_46, ks_0, kP, kS, b4, b6, i0, a1, a2, g0, e, hr, ↓reduceIte, Option.toList_some, Option.toList_none, List.cons_append, List.nil_append, and_self]
  · by_cases e9 : n 20 ≤ 9000
    · have hr : rfN c n = nI 0 := by rw [rfN, if_neg e, if_pos e9]
      have h9 : nI (n 20) ≤ nI 9000 := nI_le e9 (by omega)
      simp only [w94_0, w94_1, w94_2, w94_5, w94_6, w94_8, w94_11, w94_13, w94_14, w94_15, w94_18, w94_21, w94_24, w94_26, w94_27, w94_28, w94_31, w94_34, w94_37, w94_40, w94_42, w94_45, w94_46, ks_0, kP, kS, b4, b6, i0, j5, a1, a2, g0, e, h9, hr, ↓reduceIte, Option.toList_some, Option.toList_none, List.cons_append, List.nil_append, and_self]
    · have hr : rfN c n = -1000000004 := by rw [rfN, if_neg e, if_neg e9]
      have h9 : ¬ nI (n 20) ≤ nI 9000 := nI_ge (by omega) h20
      simp only [w94_0, w94_1, w94_2, w94_5, w94_6, w94_8, w94_11, w94_13, w94_14, w94_15, w94_18, w94_21, w94_24, w94_26, w94_27, w94_28, w94_31, w94_34, w94_37, w94_40, w94_42, w94_45, w94_46, ks_0, kP, kS, b4, b6, i0, j5, a1, a2, g0, e, h9, hr, ↓reduceIte, Option.toList_some, Option.toList_none, List.cons_append, List.nil_append, and_self]
theorem c_refusal_f {x : Int32} (hx : ¬ ∃ j, 1 ≤ j ∧ j ≤ 60 ∧ x = nI j) : Cq 94 [(.ref (0 : Nat)), .int x] σ Q = Q (some (.int (-1000000002))) σ := by
  have h : ¬ (lN 1 ≤ x.toInt64 ∧ x.toInt64 ≤ lN 60) := fun z => hx ((in_ok2 (x := x) (show 60 < 2 ^ 30 by omega) (show 1 < 2 ^ 30 by omega)).mp z)
  rw [Int64.le_iff_toInt_le, Int64.le_iff_toInt_le, Int32.toInt_toInt64, lN_toInt (show 1 < 2 ^ 31 by omega), lN_toInt (show 60 < 2 ^ 31 by omega)] at h
  refine Cq_of (Er_of ?_)
  show Wq none 94 0 [some (.ref (0 : Nat)), some (.int x)] [] _ _
  by_cases a1 : x < nI 1
  · simp only [w94_0, w94_1, w94_2, w94_5, w94_6, w94_8, w94_11, w94_13, w94_14, w94_15, w94_18, w94_21, w94_24, w94_26, w94_27, w94_28, w94_31, w94_34, w94_37, w94_40, w94_42, w94_45, w94_46, a1, ↓reduceIte, Option.toList_some, Option.toList_none, List.cons_append, List.nil_append, and_self]
  · have a2 : ¬ x ≤ nI 60 := fun z => by
      rw [Int32.lt_iff_toInt_lt, nI_toInt (by omega)] at a1
      rw [Int32.le_iff_toInt_le, nI_toInt (by omega)] at z
      omega
    simp only [w94_0, w94_1, w94_2, w94_5, w94_6, w94_8, w94_11, w94_13, w94_14, w94_15, w94_18, w94_21, w94_24, w94_26, w94_27, w94_28, w94_31, w94_34, w94_37, w94_40, w94_42, w94_45, w94_46, a1, a2, ↓reduceIte, Option.toList_some, Option.toList_none, List.cons_append, List.nil_append, and_self]
end RF
