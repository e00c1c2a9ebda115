/-! city answers alike on both sides -/
section PC
variable {σ : dm_G}
theorem prT_W {L : Nat} {tx : Nat → Nat} : ∀ (f p : Nat) (rd : Nat → Nat), DW rd → (prT L tx f p rd).1.2.1 = 0 → DW (prT L tx f p rd).2 := by
  intro f
  induction f with
  | zero => intro p rd h _; exact h
  | succ f ih =>
    intro p rd h
    rw [prS]
    by_cases z : p < L
    · rw [if_pos z]
      by_cases y : (clT L tx rd p).1.2.1 = 0
      · rw [if_pos y]
        exact ih _ _ (clT_W h y)
      · rw [if_neg y]
        intro w
        exact absurd w y
    · rw [if_neg z]
      intro _
      exact h
theorem prT_3 {L : Nat} {tx : Nat → Nat} (hL : L ≤ 240) : ∀ (f p : Nat) (rd : Nat → Nat), (prT L tx f p rd).1.2.1 ≤ 3 := by
  intro f
  induction f with
  | zero => intro p rd; show (0 : Nat) ≤ 3; omega
  | succ f ih =>
    intro p rd
    rw [prS]
    split
    · split
      · exact ih _ _
      · exact clT_3 hL
    · show (0 : Nat) ≤ 3; omega
theorem WN_bn {c : Nat → Nat} (hw : WC c) : WN c (bnN c) := by
  obtain ⟨w0, w2, w3, w4, w5, w6, w7, w8, w9⟩ := hw
  have p0 : 0 < 2 ^ c 0 := Nat.two_pow_pos _
  have p3 : 0 < 2 ^ c 3 := Nat.two_pow_pos _
  refine ⟨fun g hg => ?_, p3, p0, Nat.zero_le _, Nat.zero_le _⟩
  have e1 : bnN c g = c (37 + g) := if_pos (by omega)
  have e2 : bnN c (6 + g) = c (49 + g) := by
    unfold bnN
    rw [if_neg (by omega), if_pos (by omega), show 6 + g - 6 = g by omega]
  have e3 : bnN c (12 + g) = 0 := by
    unfold bnN
    rw [if_neg (by omega), if_neg (by omega)]
  rw [e1, e2, e3]
  exact ⟨(w7 g hg).1, (w7 g hg).2.2, p3⟩
theorem snF_o {S P a b : Nat} (h : ¬ (a = S + 1 ∨ a = S + 2 ∨ a = S + 3)) (h2 : ¬ (a = S ∧ 3 ≤ b ∧ b ≤ 6)) : snF S P σ a b = σ a b := by
  unfold snF
  rw [if_neg (fun z => h z.1), if_neg h2]
theorem CN_sn {D : Nat} {c : Nat → Nat} (hS : SK 24) (rS : SR σ 24) (hC : CC σ D c) (h2 : c 2 ≤ 6) (hD : D = 4 ∨ D = 14) : CN (snF 24 D σ) 24 (c 2) (bnN c) := by
  have f4 := hC.2.2.2.2.2.2.1
  have z3 : ∀ b, 3 ≤ b → b ≤ 6 → snF 24 D σ 24 b = .int (nI 0) := fun b h1 h2 => by
    unfold snF
    rw [if_neg (by omega), if_pos ⟨rfl, h1, h2⟩]
  refine ⟨hS, ⟨(snF_o (by omega) (by omega)).trans rS.1, (snF_o (by omega) (by omega)).trans rS.2.1, (snF_o (by omega) (by omega)).trans rS.2.2⟩, ⟨z3 3 (by omega) (by omega), z3 4 (by omega) (by omega), z3 5 (by omega) (by omega), z3 6 (by omega) (by omega)⟩, fun g hg => ?_⟩
  have g1 : gi (snF 24 D σ) (24 + 1) g = gi σ (D + 4) g := by
    show dm_i (snF 24 D σ (24 + 1) g) = _
    unfold snF snV
    rw [if_pos ⟨Or.inl rfl, by omega⟩, if_pos rfl]
    rfl
  have g2 : gi (snF 24 D σ) (24 + 2) g = gi σ (D + 6) g := by
    show dm_i (snF 24 D σ (24 + 2) g) = _
    unfold snF snV
    rw [if_pos ⟨Or.inr (Or.inl rfl), by omega⟩, if_neg (by omega), if_pos rfl]
    rfl
  have g3 : gi (snF 24 D σ) (24 + 3) g = nI 0 := by
    show dm_i (snF 24 D σ (24 + 3) g) = _
    unfold snF snV
    rw [if_pos ⟨Or.inr (Or.inr rfl), by omega⟩, if_neg (by omega), if_neg (by omega)]
    rfl
  have e1 : bnN c g = c (37 + g) := if_pos (by omega)
  have e2 : bnN c (6 + g) = c (49 + g) := by
    unfold bnN
    rw [if_neg (by omega), if_pos (by omega), show 6 + g - 6 = g by omega]
  have e3 : bnN c (12 + g) = 0 := by
    unfold bnN
    rw [if_neg (by omega), if_neg (by omega)]
  rw [g1, g2, g3, e1, e2, e3]
  exact ⟨(f4 g hg).1, (f4 g hg).2.2, rfl⟩
end PC
