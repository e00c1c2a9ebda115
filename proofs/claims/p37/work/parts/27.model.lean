/-! the reference's small methods -/
/-- the number of a set's members -/
def pcN (s : Nat) : Nat := s % 2 + s / 2 % 2 + s / 4 % 2 + s / 8 % 2 + s / 16 % 2 + s / 32 % 2 + s / 64 % 2 + s / 128 % 2
section MS
variable {σ : dm_G} {Q : Option Value → dm_G → Prop}
/-- members taken away one by one -/
def kbN : Nat → Nat → Nat := fun f s => match f with
  | 0 => 0
  | f + 1 => if s = 0 then 0 else kbN f (s &&& (s - 1)) + 1
theorem kbN_pc : ∀ s, s < 256 → kbN 9 s = pcN s := by decide +kernel
def kbZ : Nat → Nat → Bool := fun f s => match f with
  | 0 => false
  | f + 1 => s == 0 || kbZ f (s &&& (s - 1))
theorem kbZ_9 : ∀ s, s < 256 → kbZ 9 s = true := by decide +kernel
theorem c_bitCount {s : Nat} (hs : s < 256) : Cq 130 [.int (nI s)] σ Q = Q (some (.int (nI (pcN s)))) σ := by
  refine Cq_of (Er_of ?_)
  show Wq none 130 0 [some (.int (nI s))] [] σ _
  simp only [w130_0, w130_1, w130_2, w130_3, w130_4, w130_7, w130_8, w130_9, w130_10, w130_11, w130_14, w130_15, w130_16, w130_17, w130_18, w130_21, w130_22, w130_23, w130_24, w130_25, w130_26, w130_27, w130_28, w130_29, w130_32, w130_33, w130_34, w130_35, w130_36, w130_38, w130_39, w130_40, w130_41, w130_42, w130_43, w130_45, w130_46, w130_47, w130_48, w130_49, w130_51, w130_52]
  refine ⟨?_, trivial⟩
  congr 2
  revert s
  decide +kernel
/-- a copy of k places of one array to another -/
def cpL (σ : dm_G) (A i B j k : Nat) : dm_G := fun a b => if a = B ∧ j ≤ b ∧ b < j + k then .int (gi σ A (i + (b - j))) else σ a b
end MS
section MT
variable {σ : dm_G} {c n : Nat → Nat} {Q : Option Value → dm_G → Prop}
end MT
