/-! the reference's graph: first turn, reach; who is who -/
theorem in_ok {x : Int32} {N : Nat} (hN : N < 2 ^ 30) : (lN 0 ≤ x.toInt64 ∧ x.toInt64 ≤ (nI N - nI 1).toInt64) ↔ ∃ j, j < N ∧ x = nI j := by
  rw [Int64.le_iff_toInt_le, Int64.le_iff_toInt_le, Int32.toInt_toInt64, Int32.toInt_toInt64, lN_toInt (show 0 < 2 ^ 31 by omega), pk_sub_toInt hN (show 1 < 2 ^ 30 by omega)]
  constructor
  · rintro ⟨h1, h2⟩
    refine ⟨x.toInt.toNat, by omega, ?_⟩
    apply Int32.toInt_inj.mp
    rw [nI_toInt (by omega)]
    omega
  · rintro ⟨j, hj, rfl⟩
    rw [nI_toInt (by omega)]
    omega
theorem in_ok2 {x : Int32} {a N : Nat} (hN : N < 2 ^ 30) (ha : a < 2 ^ 30) : (lN a ≤ x.toInt64 ∧ x.toInt64 ≤ lN N) ↔ ∃ j, a ≤ j ∧ j ≤ N ∧ x = nI j := by
  rw [Int64.le_iff_toInt_le, Int64.le_iff_toInt_le, Int32.toInt_toInt64, lN_toInt (show a < 2 ^ 31 by omega), lN_toInt (show N < 2 ^ 31 by omega)]
  constructor
  · rintro ⟨h1, h2⟩
    refine ⟨x.toInt.toNat, by omega, by omega, ?_⟩
    apply Int32.toInt_inj.mp
    rw [nI_toInt (by omega)]
    omega
  · rintro ⟨j, hj, h2, rfl⟩
    rw [nI_toInt (by omega)]
    omega
section MG2
variable {σ : dm_G} {c n : Nat → Nat} {Q : Option Value → dm_G → Prop}
theorem pow8 (hw : WC c) : 1 <<< c 0 < 2 ^ 30 := by
  rw [Nat.one_shiftLeft]
  exact Nat.lt_of_le_of_lt (Nat.pow_le_pow_right (by decide) hw.1) (by decide)
-- first turn: where a way of d + 1 streets was laid
/-- what a guide asks for so many streets -/
def csN (c : Nat → Nat) (k g d : Nat) : Nat := if 5 ≤ moN c k then c (43 + g) * d / 2 else c (43 + g) * d
end MG2
