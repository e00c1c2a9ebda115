/-! the reference: reach, ring, sets turned, listen, talk -/
section ML
variable {σ : dm_G} {c n : Nat → Nat} {Q : Option Value → dm_G → Prop}
/-- the heads of the guides below g of a set -/
def hdN (n : Nat → Nat) (s : Nat) : Nat → Nat := fun g => match g with
  | 0 => 0
  | g + 1 => if s.testBit g = true then hdN n s g ||| n (12 + g) else hdN n s g
def haN (n : Nat → Nat) : Nat → Nat := fun g => match g with
  | 0 => 0
  | g + 1 => haN n g ||| n (12 + g)
end ML
