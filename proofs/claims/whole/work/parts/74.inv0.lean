/-! at the start all holds -/
def stL : List (Nat × Nat × Value) := [(0, 0, .ref (1 : Nat)), (0, 3, .ref (2 : Nat)), (0, 4, .ref (14 : Nat)), (2, 5, .ref (4 : Nat)), (0, 5, .ref (24 : Nat)), (0, 6, .ref (28 : Nat)), (0, 7, .ref (94 : Nat)), (0, 8, .ref (105 : Nat)), (0, 9, .ref (107 : Nat)), (0, 10, .ref (110 : Nat)), (0, 11, .ref (114 : Nat)), (0, 1, .int (nI 0)), (0, 2, .int (-1)), (0, 12, .int (nI 0)), (14, 0, .int (nI 0)), (14, 2, .int (nI 0)), (14, 3, .int (nI 0)), (14, 4, .int (nI 0)), (4, 5, .ref (5 : Nat)), (14, 5, .ref (15 : Nat)), (4, 6, .ref (6 : Nat)), (14, 6, .ref (16 : Nat)), (4, 7, .ref (7 : Nat)), (14, 7, .ref (17 : Nat)), (4, 8, .ref (8 : Nat)), (14, 8, .ref (18 : Nat)), (4, 9, .ref (9 : Nat)), (14, 9, .ref (19 : Nat)), (4, 10, .ref (10 : Nat)), (14, 10, .ref (20 : Nat)), (4, 11, .ref (11 : Nat)), (14, 11, .ref (21 : Nat)), (4, 12, .ref (12 : Nat)), (14, 12, .ref (22 : Nat)), (4, 13, .ref (13 : Nat)), (14, 13, .ref (23 : Nat)), (24, 0, .ref (25 : Nat)), (24, 1, .ref (26 : Nat)), (24, 2, .ref (27 : Nat)), (24, 3, .int (nI 0)), (24, 4, .int (nI 0)), (24, 5, .int (nI 0)), (24, 6, .int (nI 0)), (28, 0, .ref (29 : Nat)), (28, 1, .int (nI 0)), (28, 2, .int (nI 0)), (94, 0, .ref (95 : Nat)), (94, 1, .ref (104 : Nat)), (94, 2, .int (nI 0)), (95, 0, .ref (96 : Nat)), (95, 1, .ref (100 : Nat)), (96, 0, .ref (97 : Nat)), (96, 1, .ref (98 : Nat)), (96, 2, .ref (99 : Nat)), (100, 0, .ref (101 : Nat)), (100, 1, .ref (102 : Nat)), (100, 2, .ref (103 : Nat)), (105, 0, .int (-1)), (105, 1, .int (nI 0)), (105, 2, .ref (106 : Nat)), (107, 0, .int (nI 0)), (107, 1, .ref (108 : Nat)), (107, 2, .ref (109 : Nat)), (110, 0, .ref (111 : Nat)), (110, 1, .ref (112 : Nat)), (110, 2, .ref (113 : Nat)), (114, 2, .ref (115 : Nat)), (114, 3, .ref (116 : Nat)), (114, 4, .ref (117 : Nat)), (118, 0, .ref (119 : Nat)), (118, 1, .ref (120 : Nat)), (118, 2, .ref (121 : Nat)), (118, 3, .ref (122 : Nat)), (118, 5, .ref (123 : Nat)), (118, 6, .ref (124 : Nat)), (118, 8, .ref (125 : Nat)), (118, 11, .ref (126 : Nat)), (118, 12, .ref (127 : Nat)), (118, 14, .ref (128 : Nat)), (118, 22, .ref (129 : Nat)), (118, 23, .ref (130 : Nat)), (118, 24, .ref (131 : Nat)), (118, 25, .ref (132 : Nat)), (118, 29, .ref (133 : Nat)), (118, 30, .ref (134 : Nat)), (118, 31, .ref (135 : Nat)), (118, 32, .ref (136 : Nat)), (118, 4, .int (nI 0)), (118, 9, .int (nI 0)), (118, 13, .int (nI 0)), (118, 15, .int (nI 0)), (118, 10, .int (-1)), (118, 7, .long (lN 0))]
def stC (σ : dm_G) : Bool := stL.all (fun q => decide (σ q.1 q.2.1 = q.2.2)) && (List.range 79).all (fun i => decide (gi σ 119 i = nI 0)) && (List.range 22).all (fun i => decide (gi σ 121 i = nI 0)) && (List.range 16).all (fun i => decide (σ 29 i = .ref (30 + 4 * i)) && decide (σ (30 + 4 * i) 0 = .ref (30 + 4 * i + 1)) && decide (σ (30 + 4 * i) 1 = .ref (30 + 4 * i + 2)) && decide (σ (30 + 4 * i) 2 = .ref (30 + 4 * i + 3))) && decide (gi σ 23 0 = nI 0) && decide (gi σ 124 0 = nI 0) && decide (gi σ 124 1 = nI 0)
set_option maxRecDepth 1000000 in
theorem stC_ok : (match stR2 with
  | some (none, (_, σ)) => stC σ
  | _ => false) = true := by decide +kernel
theorem stC_G : stC (stG stR2) = true := by
  have h := stC_ok
  rw [R2_eq] at h
  exact h
theorem st_f {a b : Nat} {v : Value} (h : (a, b, v) ∈ stL) : stG stR2 a b = v := by
  have h1 := stC_G
  unfold stC at h1
  simp only [Bool.and_eq_true] at h1
  have h2 := List.all_eq_true.mp h1.1.1.1.1.1.1 _ h
  exact of_decide_eq_true h2
theorem st_119 {i : Nat} (hi : i < 79) : gi (stG stR2) 119 i = nI 0 := by
  have h1 := stC_G
  unfold stC at h1
  simp only [Bool.and_eq_true] at h1
  exact of_decide_eq_true (List.all_eq_true.mp h1.1.1.1.1.1.2 _ (List.mem_range.mpr hi))
theorem st_121 {i : Nat} (hi : i < 22) : gi (stG stR2) 121 i = nI 0 := by
  have h1 := stC_G
  unfold stC at h1
  simp only [Bool.and_eq_true] at h1
  exact of_decide_eq_true (List.all_eq_true.mp h1.1.1.1.1.2 _ (List.mem_range.mpr hi))
theorem st_29 {i : Nat} (hi : i < 16) : stG stR2 29 i = .ref (30 + 4 * i) ∧ SR (stG stR2) (30 + 4 * i) := by
  have h1 := stC_G
  unfold stC at h1
  simp only [Bool.and_eq_true] at h1
  have h2 := List.all_eq_true.mp h1.1.1.1.2 _ (List.mem_range.mpr hi)
  simp only [Bool.and_eq_true, decide_eq_true_eq] at h2
  exact ⟨h2.1.1.1, h2.1.1.2, h2.1.2, h2.2⟩
theorem st_o : gi (stG stR2) 23 0 = nI 0 ∧ gi (stG stR2) 124 0 = nI 0 ∧ gi (stG stR2) 124 1 = nI 0 := by
  have h1 := stC_G
  unfold stC at h1
  simp only [Bool.and_eq_true, decide_eq_true_eq] at h1
  exact ⟨h1.1.1.2, h1.1.2, h1.2⟩
theorem inv_0 : Inv (stG stR2) := by
  have m : ∀ {a b : Nat} {v : Value}, (a, b, v) ∈ stL → stG stR2 a b = v := fun h => st_f h
  refine ⟨fun _ => 0, fun _ => 0, 0, fun _ _ => 0, 0, fun _ _ => 0, 0, fun _ => 0, fun _ => 0, 0, fun _ => 0, fun _ => 0, 0, fun _ => 0, -1, 0, ?_, ?_, ?_⟩
  · refine ⟨⟨Nat.zero_le _, Nat.zero_le _, Nat.zero_le _, Nat.zero_le _, fun x hx => absurd hx (Nat.not_lt_zero _), fun i hi => absurd hi (Nat.not_lt_zero _), fun g hg => absurd hg (Nat.not_lt_zero _), fun e he => absurd he (Nat.not_lt_zero _), fun i hi => absurd hi (Nat.not_lt_zero _)⟩, ⟨fun g hg => absurd hg (Nat.not_lt_zero _), by decide, by decide, Nat.zero_le _, Nat.zero_le _⟩, ⟨Nat.zero_le _, fun i hi => absurd hi (Nat.not_lt_zero _)⟩, ⟨by decide, fun i hi hb => by simp at hb⟩, ⟨Nat.zero_le _, fun _ => Nat.succ_pos 5, fun _ => Nat.succ_pos 2⟩, ⟨Nat.zero_le _, fun i hi => absurd hi (Nat.not_lt_zero _)⟩, ⟨Nat.zero_le _, fun i hi => absurd hi (Nat.not_lt_zero _)⟩, by decide⟩
  · refine ⟨⟨14, 4, Or.inr ⟨rfl, rfl⟩, ⟨m (by decide), m (by decide), m (by decide), m (by decide), m (by decide), m (by decide), m (by decide), m (by decide), m (by decide), m (by decide), m (by decide)⟩, ⟨CK_14, ⟨m (by decide), m (by decide), m (by decide), m (by decide), m (by decide), m (by decide), m (by decide), m (by decide), m (by decide)⟩, ⟨m (by decide), m (by decide), m (by decide), m (by decide)⟩, fun x hx => absurd hx (Nat.not_lt_zero _), fun i hi => absurd hi (Nat.not_lt_zero _), fun x hx => absurd hx (Nat.not_lt_zero _), fun g hg => absurd hg (Nat.not_lt_zero _), fun e he => absurd he (Nat.not_lt_zero _), fun i hi => absurd hi (Nat.not_lt_zero _), fun _ => st_o.1⟩, ⟨m (by decide), m (by decide), m (by decide), m (by decide), m (by decide), m (by decide), m (by decide), m (by decide), m (by decide)⟩⟩, ⟨SK_24, ⟨m (by decide), m (by decide), m (by decide)⟩, ⟨m (by decide), m (by decide), m (by decide), m (by decide)⟩, fun g hg => absurd hg (Nat.not_lt_zero _)⟩, ⟨0, by omega, ⟨m (by decide), m (by decide), m (by decide), fun i hi => (st_29 hi).1⟩, fun i hi => (st_29 hi).2, fun i hi => absurd hi (Nat.not_lt_zero _)⟩, ⟨⟨m (by decide), m (by decide), m (by decide), fun i hi => ?_⟩, fun i hi => ?_, fun i hi hb => by simp at hb⟩, ⟨m (by decide), fun _ => ⟨m (by decide), m (by decide)⟩, fun h => absurd h (Nat.not_lt_zero _)⟩, ⟨m (by decide), m (by decide), m (by decide), fun i hi => absurd hi (Nat.not_lt_zero _)⟩, ⟨m (by decide), fun i hi => absurd hi (Nat.not_lt_zero _)⟩, m (by decide), m (by decide), ⟨m (by decide), m (by decide), m (by decide), m (by decide), m (by decide), m (by decide)⟩⟩
    · rcases (by omega : i = 0 ∨ i = 1) with rfl | rfl
      · exact m (by decide)
      · exact m (by decide)
    · rcases (by omega : i = 0 ∨ i = 1) with rfl | rfl
      · exact ⟨m (by decide), m (by decide), m (by decide)⟩
      · exact ⟨m (by decide), m (by decide), m (by decide)⟩
  · refine ⟨⟨m (by decide), m (by decide), m (by decide), m (by decide), m (by decide), m (by decide), m (by decide), m (by decide), m (by decide), m (by decide), m (by decide), m (by decide), m (by decide), m (by decide), m (by decide), m (by decide), m (by decide), m (by decide)⟩, fun i hi => st_119 hi, fun i hi => st_121 hi, ⟨m (by decide), fun i hi => absurd hi (Nat.not_lt_zero _)⟩, fun i hi => ⟨?_, fun hb => by simp at hb⟩, ⟨m (by decide), fun i hi => absurd hi (Nat.not_lt_zero _), fun i h1 hi => absurd hi (Nat.not_lt_zero _)⟩, ⟨m (by decide), fun i hi => absurd hi (Nat.not_lt_zero _)⟩, ⟨m (by decide), fun i hi => absurd hi (Nat.not_lt_zero _)⟩, m (by decide), m (by decide)⟩
    rcases (by omega : i = 0 ∨ i = 1) with rfl | rfl
    · exact st_o.2.1
    · exact st_o.2.2
