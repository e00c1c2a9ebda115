/-! the reference's small methods -/
/-- the number of a set's members -/
def pcN (s : Nat) : Nat := s % 2 + s / 2 % 2 + s / 4 % 2 + s / 8 % 2 + s / 16 % 2 + s / 32 % 2 + s / 64 % 2 + s / 128 % 2
section MS
variable {σ : dm_G} {Q : Option Value → dm_G → Prop}
/-- members taken away one by one -/
def kbN : Nat → Nat → Nat := fun f s => match f with
  | 0 => 0
  | f + 1 => if s = 0 then 0 else kbN f (s &&& (s - 1)) + 1
theorem kbN_pc : ∀ s, s < 256 → kbN 9 s = pcN s := by decide +kernel
def kbZ : Nat → Nat → Bool := fun f s => match f with
  | 0 => false
  | f + 1 => s == 0 || kbZ f (s &&& (s - 1))
theorem kbZ_9 : ∀ s, s < 256 → kbZ 9 s = true := by decide +kernel
theorem c_bitCount {s : Nat} (hs : s < 256) : Cq 129 [.int (nI s)] σ Q = Q (some (.int (nI (pcN s)))) σ := by
  refine Cq_of (Er_of ?_)
  show Wq none 129 0 [some (.int (nI s))] [] σ _
  simp only [w129_0, w129_1, w129_2, w129_3, w129_4, w129_7, w129_8, w129_9, w129_10, w129_11, w129_14, w129_15, w129_16, w129_17, w129_18, w129_21, w129_22, w129_23, w129_24, w129_25, w129_26, w129_27, w129_28, w129_29, w129_32, w129_33, w129_34, w129_35, w129_36, w129_38, w129_39, w129_40, w129_41, w129_42, w129_43, w129_45, w129_46, w129_47, w129_48, w129_49, w129_51, w129_52]
  refine ⟨?_, trivial⟩
  congr 2
  revert s
  decide +kernel
/-- a copy of k places of one array to another -/
def cpL (σ : dm_G) (A i B j k : Nat) : dm_G := fun a b => if a = B ∧ j ≤ b ∧ b < j + k then .int (gi σ A (i + (b - j))) else σ a b
end MS
section MT
variable {σ : dm_G} {c n : Nat → Nat} {Q : Option Value → dm_G → Prop}
end MT
