/-! reading and writing the heap's ints; numbers that are not negative -/
theorem gi_up {σ : dm_G} {k j a b : Nat} {x : Int32} : gi (dm_up σ k j (.int x)) a b = if a = k ∧ b = j then x else gi σ a b := by
  unfold gi dm_up
  split <;> rfl
theorem gi_upr {σ : dm_G} {k j a b r : Nat} (h : ¬ (a = k ∧ b = j)) : gi (dm_up σ k j (.ref r)) a b = gi σ a b := by
  unfold gi dm_up
  rw [if_neg h]
theorem up_get {σ : dm_G} {k j a b : Nat} {v : Value} : dm_up σ k j v a b = if a = k ∧ b = j then v else σ a b := rfl
theorem in_nI {i n : Nat} (h : i < n) (hn : n < 2 ^ 31) : dm_in (nI i) n = true := by
  have h1 := nI_in h hn
  simp only [dm_in, Bool.not_eq_true', Bool.or_eq_false_iff, decide_eq_false_iff_not]
  exact ⟨fun z => h1 (Or.inl z), fun z => h1 (Or.inr z)⟩
-- bits
theorem nb_ext {x y : Int32} (h : ∀ i, i < 32 → x.toBitVec.getLsbD i = y.toBitVec.getLsbD i) : x = y := Int32.toBitVec_inj.mp (BitVec.eq_of_getLsbD_eq (fun i hi => h i hi))
theorem nb_at (a i : Nat) : (nI a).toBitVec.getLsbD i = (decide (i < 32) && a.testBit i) := by
  show (BitVec.ofNat 32 a).getLsbD i = _
  rw [BitVec.getLsbD_ofNat]
theorem nI_and (a b : Nat) : nI a &&& nI b = nI (a &&& b) := nb_ext fun i hi => by
  rw [Int32.toBitVec_and, BitVec.getLsbD_and, nb_at, nb_at, nb_at, Nat.testBit_and]
  simp [hi]
theorem nI_or (a b : Nat) : nI a ||| nI b = nI (a ||| b) := nb_ext fun i hi => by
  rw [Int32.toBitVec_or, BitVec.getLsbD_or, nb_at, nb_at, nb_at, Nat.testBit_or]
  simp [hi]
theorem nI_xor (a b : Nat) : nI a ^^^ nI b = nI (a ^^^ b) := nb_ext fun i hi => by
  rw [Int32.toBitVec_xor, BitVec.getLsbD_xor, nb_at, nb_at, nb_at, Nat.testBit_xor]
  simp [hi]
theorem nb_sl : ∀ n, n < 32 → ((nI n &&& 31).toBitVec.smod 32).toNat = n := by decide +kernel
theorem nI_shl (a : Nat) {x : Nat} (hx : x < 32) : nI a <<< (nI x &&& 31) = nI (a <<< x) := nb_ext fun i hi => by
  rw [Int32.toBitVec_shiftLeft]
  show ((nI a).toBitVec <<< ((nI x &&& 31).toBitVec.smod 32).toNat).getLsbD i = _
  rw [nb_sl x hx, BitVec.getLsbD_shiftLeft, nb_at, nb_at, Nat.testBit_shiftLeft]
  by_cases h : x ≤ i
  · have h2 : ¬ i < x := by omega
    have h3 : i - x < 32 := by omega
    simp [hi, h, h2, h3]
  · have h2 : i < x := by omega
    simp [hi, h, h2]
theorem tb_lt {a n i : Nat} (h : a < 2 ^ n) (hi : n ≤ i) : a.testBit i = false := Nat.testBit_lt_two_pow (Nat.lt_of_lt_of_le h (Nat.pow_le_pow_right (by omega) hi))
theorem nI_shr {a x : Nat} (ha : a < 2 ^ 31) (hx : x < 32) : nI a >>> (nI x &&& 31) = nI (a >>> x) := nb_ext fun i hi => by
  rw [Int32.toBitVec_shiftRight]
  show ((nI a).toBitVec.sshiftRight ((nI x &&& 31).toBitVec.smod 32).toNat).getLsbD i = _
  rw [nb_sl x hx, BitVec.getLsbD_sshiftRight, BitVec.msb_eq_getLsbD_last, nb_at, nb_at, nb_at, Nat.testBit_shiftRight]
  have h31 : a.testBit 31 = false := tb_lt ha (Nat.le_refl _)
  by_cases h : x + i < 32
  · simp [hi, h]
  · have h2 : a.testBit (x + i) = false := tb_lt ha (by omega)
    simp [hi, h, h2, h31]
theorem nI_bit {a x : Nat} (ha : a < 2 ^ 31) (hx : x < 32) : nI a >>> (nI x &&& 31) &&& nI 1 = if a.testBit x = true then nI 1 else nI 0 := by
  rw [nI_shr ha hx, nI_and]
  have h : a >>> x &&& 1 = if a.testBit x = true then 1 else 0 := by
    rw [Nat.and_one_is_mod, Nat.shiftRight_eq_div_pow]
    simp only [Nat.testBit, Nat.shiftRight_eq_div_pow, Nat.and_comm 1, Nat.and_one_is_mod]
    rcases Nat.mod_two_eq_zero_or_one (a / 2 ^ x) with h | h <;> simp [h]
  rw [h]
  split <;> rfl
/-- a without w -/
def andn (a w : Nat) : Nat := a &&& (a ^^^ w)
theorem andn_tb (a w i : Nat) : (andn a w).testBit i = (a.testBit i && !w.testBit i) := by
  unfold andn
  rw [Nat.testBit_and, Nat.testBit_xor]
  cases a.testBit i <;> cases w.testBit i <;> rfl
theorem nI_andn {a : Nat} (w : Nat) : nI a &&& (nI w ^^^ (-1)) = nI (andn a w) := nb_ext fun i hi => by
  rw [Int32.toBitVec_and, BitVec.getLsbD_and, Int32.toBitVec_xor, BitVec.getLsbD_xor, nb_at, nb_at, nb_at, andn_tb]
  have h : (-1 : Int32).toBitVec.getLsbD i = true := (by decide +kernel : ∀ i, i < 32 → (-1 : Int32).toBitVec.getLsbD i = true) i hi
  rw [h]
  simp [hi]
theorem and_lt {a b n : Nat} (h : a < 2 ^ n) : a &&& b < 2 ^ n := Nat.lt_of_le_of_lt Nat.and_le_left h
theorem andn_lt {a w n : Nat} (h : a < 2 ^ n) : andn a w < 2 ^ n := and_lt h
theorem or_lt {a b n : Nat} (h : a < 2 ^ n) (h2 : b < 2 ^ n) : a ||| b < 2 ^ n := Nat.or_lt_two_pow h h2
theorem pow31 {a n : Nat} (h : a < 2 ^ n) (hn : n ≤ 31) : a < 2 ^ 31 := Nat.lt_of_lt_of_le h (Nat.pow_le_pow_right (by omega) hn)
theorem nI_ne1 : ¬ (nI 1 = nI 0) := by decide
-- BlindGuides.at, put: known calls
section CA
variable {σ : dm_G} {k i : Nat} {v : Int32} {Q : Option Value → dm_G → Prop}
theorem c_at (hk : kt k = 1) (hi : i < kl k) (hn : kl k < 2 ^ 31) : Cq 120 [.ref k, .int (nI i)] σ Q = Q (some (.int (gi σ k i))) σ := by
  refine Cq_of (Er_of ?_)
  show Wq none 120 0 [some (.ref k), some (.int (nI i))] [] σ _
  have h1 : ¬ nI i < nI 0 := nI_pos (by omega)
  have h2 : ¬ nI (kl k) ≤ nI i := nI_ge hi hn
  simp only [w120_0, w120_1, w120_4, w120_5, w120_6, w120_6q, w120_7, w120_10, w120_11, w120_12, w120_13, w120_16, w120_17, hk, h1, h2, if_false, in_nI hi hn, nI_clamp (show i < 2 ^ 31 by omega), and_self]
theorem c_put (hk : kt k = 1) (hi : i < kl k) (hn : kl k < 2 ^ 31) : Cq 121 [.ref k, .int (nI i), .int v] σ Q = Q none (dm_up σ k i (.int v)) := by
  refine Cq_of (Er_of ?_)
  show Wq none 121 0 [some (.ref k), some (.int (nI i)), some (.int v)] [] σ _
  have h1 : ¬ nI i < nI 0 := nI_pos (by omega)
  have h2 : ¬ nI (kl k) ≤ nI i := nI_ge hi hn
  simp only [w121_0, w121_1, w121_4, w121_5, w121_6, w121_6q, w121_7, w121_10, w121_11, w121_12, w121_13, w121_14, hk, h1, h2, if_false, in_nI hi hn, nI_clamp (show i < 2 ^ 31 by omega), and_self]
end CA
