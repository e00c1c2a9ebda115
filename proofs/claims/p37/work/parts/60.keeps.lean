/-! undone, seed, images, the book, text: both sides -/
theorem in_no {x : Int32} {N : Nat} (hN : N < 2 ^ 29) (hx : ¬ ∃ j, j < N + 1 ∧ x = nI j) : ¬ (lN 0 ≤ x.toInt64 ∧ x.toInt64 ≤ lN N) := fun q => by
  obtain ⟨j, -, h4, rfl⟩ := (in_ok2 (x := x) (show N < 2 ^ 30 by omega) (show 0 < 2 ^ 30 by omega)).mp q
  exact hx ⟨j, by omega, rfl⟩
theorem in_yes {j N : Nat} (hN : N < 2 ^ 29) (hj : j ≤ N) : lN 0 ≤ (nI j).toInt64 ∧ (nI j).toInt64 ≤ lN N := (in_ok2 (x := nI j) (show N < 2 ^ 30 by omega) (show 0 < 2 ^ 30 by omega)).mpr ⟨j, by omega, hj, rfl⟩
theorem nlt_le {x : Int32} {N : Nat} (h0 : ¬ x < nI 0) (hx : x < 0 ∨ nI N ≤ x) : ¬ x < nI N := fun q => by
  have h3 := hx.resolve_left h0
  rw [Int32.le_iff_toInt_le] at h3
  rw [Int32.lt_iff_toInt_lt] at q
  omega
theorem nle_le {x : Int32} {N : Nat} (hN : N + 1 < 2 ^ 31) (h0 : ¬ x < nI 0) (hx : x < 0 ∨ nI (N + 1) ≤ x) : ¬ x ≤ nI N := fun q => by
  have h3 := hx.resolve_left h0
  rw [Int32.le_iff_toInt_le, nI_toInt (by omega)] at h3 q
  omega
theorem nn_ex {x : Int32} (h : ¬ x < 0) : ∃ v, v < 2 ^ 31 ∧ x = nI v := by
  rw [Int32.lt_iff_toInt_lt] at h
  have h0 : (0 : Int32).toInt = 0 := rfl
  have hx := Int32.toInt_lt x
  refine ⟨x.toInt.toNat, by omega, Int32.toInt_inj.mp ?_⟩
  rw [nI_toInt (by omega)]
  omega
section KE
variable {σ σ' : dm_G} {Q : Option Value → dm_G → Prop} {S G : Nat} {c n : Nat → Nat} {k : Nat} {p : Nat → Nat → Nat} {q : Nat} {im : Nat → Nat → Nat} {h : Nat} {hs ht : Nat → Nat} {m : Nat} {bg bx : Nat → Nat} {L : Nat} {tx : Nat → Nat} {f : Int32} {s : Nat}
-- undo
-- seed
-- tear
-- write
-- feed
end KE
