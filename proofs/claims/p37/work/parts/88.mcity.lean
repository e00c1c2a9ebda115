/-! the text: the reference's city, as a call -/
def bnN (c : Nat → Nat) : Nat → Nat := fun i => if i < 6 then c (37 + i) else if i < 12 then c (49 + (i - 6)) else 0
section MY
variable {L : Nat} {tx : Nat → Nat} {σ ρ : dm_G} {rd : Nat → Nat} {Q : Option Value → dm_G → Prop}
theorem cpL_o {A i B j k a b : Nat} (h : ¬ a = B) : cpL σ A i B j k a b = σ a b := if_neg (fun z => h z.1)
theorem nar_0 : vp_nar .boolean (nI 0) = nI 0 := by decide
end MY
