/-! the reference's nights -/
def n1N (n : Nat → Nat) : Nat → Nat := fun i => if i = 20 then n 20 + 1 else if i = 18 then 0 else n i
section NG
variable {Q : Option Value → dm_G → Prop}
end NG
