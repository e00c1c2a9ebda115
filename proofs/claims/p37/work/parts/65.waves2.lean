/-! the search: the reference's side, and both calls -/
section W2
variable {σ : dm_G} {c : Nat → Nat} {P D : Nat} {Q : Option Value → dm_G → Prop}
end W2
