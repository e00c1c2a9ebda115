/-! calls that look at a crossing, a guide, a client -/
theorem sw_d {x : Int32} {N : Nat} (hN : N + 1 < 2 ^ 31) (hx : x < 0 ∨ nI (N + 1) ≤ x) : x.toInt < 0 ∨ (N : Int) < x.toInt := by
  rcases hx with hx | hx
  · left
    have := Int32.lt_iff_toInt_lt.mp hx
    rwa [show (0 : Int32).toInt = 0 from rfl] at this
  · right
    have := Int32.le_iff_toInt_le.mp hx
    rw [nI_toInt (by omega)] at this
    omega
section RE
variable {σ : dm_G} {c n : Nat → Nat} {P D : Nat} {Q : Option Value → dm_G → Prop}
end RE
