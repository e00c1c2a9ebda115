/-! what is heard: the reference -/
theorem okN_mono {c hs ht : Nat → Nat} {x : Nat} {k : Nat} (h : okN c hs ht x k = false) : ∀ j, k ≤ j → okN c hs ht x j = false := by
  intro j
  induction j with
  | zero => intro hj; obtain rfl : k = 0 := by omega
            exact h
  | succ j ih =>
    intro hj
    rcases Nat.lt_or_ge j k with h1 | h1
    · obtain rfl : k = j + 1 := by omega
      exact h
    · rw [okN, ih h1, Bool.false_and]
def pkN (fb : Bool) (x y : Nat) : Nat := if fb = true then x else y
/-- where one is, or began, of those below x -/
def heB (fb : Bool) (c hs ht : Nat → Nat) (k : Nat) : Nat → Nat := fun x => match x with
  | 0 => 0
  | x + 1 => if okN c hs ht x k = true then heB fb c hs ht k x ||| 1 <<< pkN fb x (psN c ht x k) else heB fb c hs ht k x
theorem heB_t {c hs ht : Nat → Nat} {k : Nat} : ∀ x, heB true c hs ht k x = stN c hs ht k x := by
  intro x
  induction x with
  | zero => rfl
  | succ x ih => rw [heB, stN, ih]; rfl
theorem heB_f {c hs ht : Nat → Nat} {k : Nat} : ∀ x, heB false c hs ht k x = heN c hs ht k x := by
  intro x
  induction x with
  | zero => rfl
  | succ x ih => rw [heB, heN, ih]; rfl
section MHS
variable {σ : dm_G} {c hs ht : Nat → Nat} {Q : Option Value → dm_G → Prop}
end MHS
