/-! the class's keepings: the nights gone by, the images, the book -/
section KP
variable {σ : dm_G} {Q : Option Value → dm_G → Prop}
theorem c_stateAt {k i q : Nat} (hk : kt k = 3) (hi : i < kl k) (hn : kl k < 2 ^ 31) (hv : σ k i = .ref q) : Cq 122 [.ref k, .int (nI i)] σ Q = Q (some (.ref q)) σ := by
  refine Cq_of (Er_of ?_)
  show Wq none 122 0 [some (.ref k), some (.int (nI i))] [] σ _
  have h1 : ¬ nI i < nI 0 := nI_pos (by omega)
  have h2 : ¬ nI (kl k) ≤ nI i := nI_ge hi hn
  have hv' : σ k (nI i).toNatClampNeg = .ref q := by rw [nI_clamp (show i < 2 ^ 31 by omega)]; exact hv
  simp only [w122_0, w122_1, w122_4, w122_5, w122_6, w122_6q, w122_7, w122_10, w122_11, w122_13, w122_16, w122_17, w122_12 hk (in_nI hi hn) hv', hk, h1, h2, if_false, and_self]
theorem nI_mn {a b : Nat} (ha : a < 2 ^ 31) (hb : b < 2 ^ 31) : (if nI b < nI a then nI b else nI a) = nI (min a b) := by
  by_cases h : b < a
  · rw [if_pos (by rw [Int32.lt_iff_toInt_lt, nI_toInt ha, nI_toInt hb]; omega), Nat.min_eq_right (by omega)]
  · rw [if_neg (fun z => by rw [Int32.lt_iff_toInt_lt, nI_toInt ha, nI_toInt hb] at z; omega), Nat.min_eq_left (by omega)]
theorem rem16 : ∀ a, a < 64 → nI a - nI a / nI 16 * nI 16 = nI (a % 16) := by decide +kernel
/-- the class's past: the next place u, how many k -/
def CP (σ : dm_G) (u k : Nat) : Prop := σ 28 0 = (.ref (29 : Nat)) ∧ σ 28 1 = .int (nI u) ∧ σ 28 2 = .int (nI k) ∧ ∀ i, i < 16 → σ 29 i = .ref (30 + 4 * i)
theorem c_keepAhead {u k : Nat} (hP : CP σ u k) (hu : u < 16) (hk : k ≤ 16) (hN : SK 24) (rN : SR σ 24) (hS : ∀ i, i < 16 → SK (30 + 4 * i) ∧ SR σ (30 + 4 * i)) (iN : ∃ x3 x4 x5 x6 : Int32, σ 24 3 = .int x3 ∧ σ 24 4 = .int x4 ∧ σ 24 5 = .int x5 ∧ σ 24 6 = .int x6) :
    Cq 48 [(.ref (28 : Nat)), (.ref (24 : Nat))] σ Q = Q none (dm_up (dm_up (beF (30 + 4 * u) 24 σ) 28 1 (.int (nI ((u + 1) % 16)))) 28 2 (.int (nI (min (k + 1) 16)))) := by
  obtain ⟨p0, p1, p2, p3⟩ := hP
  refine Cq_of (Er_of ?_)
  show Wq none 48 0 [some (.ref (28 : Nat)), some (.ref (24 : Nat)), none] [] σ _
  have hu' : u < kl 29 := by rw [kl_29]; exact hu
  have e1 : beF (30 + 4 * u) 24 σ 28 1 = .int (nI u) := by
    unfold beF
    rw [if_neg (by omega), if_neg (by omega), p1]
  have e2 : beF (30 + 4 * u) 24 σ 28 2 = .int (nI k) := by
    unfold beF
    rw [if_neg (by omega), if_neg (by omega), p2]
  simp only [w48_0, w48_1, w48_4, w48_5, w48_8, w48_11, w48_12, w48_13, w48_16, w48_17, w48_18, w48_21, w48_22, w48_23, w48_26, w48_27, w48_28, w48_30, w48_31, w48_34, w48_35, w48_36, w48_39, w48_40, w48_41, w48_43, w48_46, w48_49, ks_28, p0, p1, (hS u hu).1.1, c_stateAt (σ := σ) kt_29 hu' (by rw [kl_29]; omega) (p3 u hu), c_become (hS u hu).1 hN (hS u hu).2 rN (Or.inr (by omega)) iN, e1, e2, nI_add, (by decide : ¬ nI 16 = 0), not_false_eq_true, rem16 (u + 1) (by omega), nI_mn (show k + 1 < 2 ^ 31 by omega) (show 16 < 2 ^ 31 by omega), up_get, true_and, false_and, (by decide : ¬ (2 : Nat) = 1), (by decide : ¬ (0 : Nat) = 1), (by decide : ¬ (0 : Nat) = 2), (by decide : ¬ (1 : Nat) = 2), ↓reduceIte, Option.toList_some, Option.toList_none, List.cons_append, List.nil_append, and_self]
theorem c_pastClear {u k : Nat} (hP : CP σ u k) : Cq 47 [(.ref (28 : Nat))] σ Q = Q none (dm_up σ 28 2 (.int (nI 0))) := by
  refine Cq_of (Er_of ?_)
  show Wq none 47 0 [some (.ref (28 : Nat))] [] σ _
  simp only [w47_0, w47_1, w47_2, w47_5, ks_28, ↓reduceIte, Option.toList_some, Option.toList_none, List.cons_append, List.nil_append, and_self]
theorem c_pastBack {u k : Nat} (hP : CP σ u (k + 1)) (hu : u < 16) (hk : k < 16) (hN : SK 24) (rN : SR σ 24) (hS : ∀ i, i < 16 → SK (30 + 4 * i) ∧ SR σ (30 + 4 * i)) (iN : ∃ x3 x4 x5 x6 : Int32, σ (30 + 4 * ((u + 15) % 16)) 3 = .int x3 ∧ σ (30 + 4 * ((u + 15) % 16)) 4 = .int x4 ∧ σ (30 + 4 * ((u + 15) % 16)) 5 = .int x5 ∧ σ (30 + 4 * ((u + 15) % 16)) 6 = .int x6) :
    Cq 49 [(.ref (28 : Nat)), (.ref (24 : Nat))] σ Q = Q none (beF 24 (30 + 4 * ((u + 15) % 16)) (dm_up (dm_up σ 28 1 (.int (nI ((u + 15) % 16)))) 28 2 (.int (nI k)))) := by
  obtain ⟨p0, p1, p2, p3⟩ := hP
  generalize hw : (u + 15) % 16 = w at iN ⊢
  have hw16 : w < 16 := by omega
  have hS := hS w hw16
  refine Cq_of (Er_of ?_)
  show Wq none 49 0 [some (.ref (28 : Nat)), some (.ref (24 : Nat)), none] [] σ _
  have hu' : w < kl 29 := by rw [kl_29]; exact hw16
  have p3' : dm_up (dm_up σ 28 1 (.int (nI w))) 28 2 (.int (nI k)) 29 w = .ref (30 + 4 * w) := by
    rw [up_get, if_neg (by omega), up_get, if_neg (by omega)]
    exact p3 w hw16
  have hO : SR (dm_up (dm_up σ 28 1 (.int (nI w))) 28 2 (.int (nI k))) (30 + 4 * w) := by
    obtain ⟨a, b, c⟩ := hS.2
    refine ⟨?_, ?_, ?_⟩ <;> rw [up_get, if_neg (by omega), up_get, if_neg (by omega)] <;> assumption
  have hT : SR (dm_up (dm_up σ 28 1 (.int (nI w))) 28 2 (.int (nI k))) 24 := rN
  have iO : ∃ x3 x4 x5 x6 : Int32, dm_up (dm_up σ 28 1 (.int (nI w))) 28 2 (.int (nI k)) (30 + 4 * w) 3 = .int x3 ∧ dm_up (dm_up σ 28 1 (.int (nI w))) 28 2 (.int (nI k)) (30 + 4 * w) 4 = .int x4 ∧ dm_up (dm_up σ 28 1 (.int (nI w))) 28 2 (.int (nI k)) (30 + 4 * w) 5 = .int x5 ∧ dm_up (dm_up σ 28 1 (.int (nI w))) 28 2 (.int (nI k)) (30 + 4 * w) 6 = .int x6 := by
    obtain ⟨x3, x4, x5, x6, a, b, c, d⟩ := iN
    refine ⟨x3, x4, x5, x6, ?_, ?_, ?_, ?_⟩ <;> rw [up_get, if_neg (by omega), up_get, if_neg (by omega)] <;> assumption
  have e0 : nI (k + 1) - nI 1 = nI k := by rw [pk_sub (by omega), Nat.add_sub_cancel]
  have e3 : nI u + nI 16 - nI 1 = nI (u + 15) := by rw [nI_add, pk_sub (by omega)]; congr 1
  simp only [w49_0, w49_1, w49_2, w49_5, w49_7, w49_8, w49_9, w49_10, w49_12, w49_13, w49_16, w49_17, w49_18, w49_21, w49_22, w49_23, w49_24, w49_27, w49_30, w49_31, w49_34, w49_35, w49_38, w49_41, w49_42, w49_43, w49_46, w49_47, w49_48, w49_51, ks_28, hN.1, p0, p1, p2, hS.1.1, nI_add, pk_sub (show 1 ≤ u + 16 by omega), show u + 16 - 1 = u + 15 from rfl, (by decide : ¬ nI 16 = 0), not_false_eq_true, rem16 (u + 15) (by omega), hw, up_get, true_and, false_and, (by decide : ¬ (2 : Nat) = 1), (by decide : ¬ (0 : Nat) = 1), (by decide : ¬ (0 : Nat) = 2), (by decide : ¬ (1 : Nat) = 2), nI_mx (show k < 2 ^ 31 by omega) (show 0 < 2 ^ 31 by omega), Nat.max_zero, e0, c_stateAt kt_29 hu' (by rw [kl_29]; omega) p3', c_become hN hS.1 hT hO (Or.inl (by omega)) iO, ↓reduceIte, Option.toList_some, Option.toList_none, List.cons_append, List.nil_append, and_self]
/-- the class's images: kept, as bits -/
def CI (σ : dm_G) (q : Nat) : Prop := σ 94 0 = (.ref (95 : Nat)) ∧ σ 94 1 = (.ref (104 : Nat)) ∧ σ 94 2 = .int (nI q) ∧ ∀ i, i < 2 → σ 95 i = .ref (96 + 4 * i)
theorem c_imClear : Cq 31 [(.ref (94 : Nat))] σ Q = Q none (dm_up σ 94 2 (.int (nI 0))) := by
  refine Cq_of (Er_of ?_)
  show Wq none 31 0 [some (.ref (94 : Nat))] [] σ _
  simp only [w31_0, w31_1, w31_2, w31_5, ks_94, ↓reduceIte, Option.toList_some, Option.toList_none, List.cons_append, List.nil_append, and_self]
theorem c_imHas {q i : Nat} (hI : CI σ q) (hq : q < 4) (hi : i < 2) : Cq 32 [(.ref (94 : Nat)), .int (nI i)] σ Q = Q (some (.int (if q.testBit i = true then nI 1 else nI 0))) σ := by
  obtain ⟨p0, p1, p2, p3⟩ := hI
  refine Cq_of (Er_of ?_)
  show Wq none 32 0 [some (.ref (94 : Nat)), some (.int (nI i))] [] σ _
  by_cases hb : q.testBit i = true
  · simp only [w32_0, w32_1, w32_4, w32_5, w32_6, w32_7, w32_8, w32_11, w32_12, w32_15, w32_16, ks_94, p2, nI_bit (show q < 2 ^ 31 by omega) (show i < 32 by omega), hb, nI_ne1, ↓reduceIte, Option.toList_some, Option.toList_none, List.cons_append, List.nil_append, (by decide : nI 1 &&& 1 = nI 1), (by decide : nI 0 &&& 1 = nI 0), and_self]
  · simp only [w32_0, w32_1, w32_4, w32_5, w32_6, w32_7, w32_8, w32_11, w32_12, w32_15, w32_16, ks_94, p2, nI_bit (show q < 2 ^ 31 by omega) (show i < 32 by omega), hb, ↓reduceIte, Option.toList_some, Option.toList_none, List.cons_append, List.nil_append, (by decide : nI 1 &&& 1 = nI 1), (by decide : nI 0 &&& 1 = nI 0), and_self, Bool.false_eq_true]
theorem c_imDrawn {q i : Nat} (hI : CI σ q) (hi : i < 2) : Cq 35 [(.ref (94 : Nat)), .int (nI i)] σ Q = Q (some (.int (gi σ 104 i))) σ := by
  obtain ⟨p0, p1, p2, p3⟩ := hI
  refine Cq_of (Er_of ?_)
  show Wq none 35 0 [some (.ref (94 : Nat)), some (.int (nI i))] [] σ _
  simp only [w35_0, w35_1, w35_4, w35_5, w35_8, ks_94, p1, c_at kt_104 (show i < kl 104 by rw [kl_104]; exact hi) (by rw [kl_104]; omega), ↓reduceIte, Option.toList_some, Option.toList_none, List.cons_append, List.nil_append, and_self]
theorem c_imBack {q i : Nat} (hI : CI σ q) (hi : i < 2) (hN : SK 24) (rN : SR σ 24) (hS : SK (96 + 4 * i) ∧ SR σ (96 + 4 * i)) (iN : ∃ x3 x4 x5 x6 : Int32, σ (96 + 4 * i) 3 = .int x3 ∧ σ (96 + 4 * i) 4 = .int x4 ∧ σ (96 + 4 * i) 5 = .int x5 ∧ σ (96 + 4 * i) 6 = .int x6) : Cq 34 [(.ref (94 : Nat)), .int (nI i), (.ref (24 : Nat))] σ Q = Q none (beF 24 (96 + 4 * i) σ) := by
  obtain ⟨p0, p1, p2, p3⟩ := hI
  refine Cq_of (Er_of ?_)
  show Wq none 34 0 [some (.ref (94 : Nat)), some (.int (nI i)), some (.ref (24 : Nat)), none] [] σ _
  simp only [w34_0, w34_1, w34_4, w34_5, w34_8, w34_9, w34_10, w34_13, w34_14, w34_15, w34_18, ks_94, hN.1, p0, hS.1.1, c_stateAt (σ := σ) kt_95 (show i < kl 95 by rw [kl_95]; exact hi) (by rw [kl_95]; omega) (p3 i hi), c_become hN hS.1 rN hS.2 (Or.inl (by omega)) iN, ↓reduceIte, Option.toList_some, Option.toList_none, List.cons_append, List.nil_append, and_self]
theorem c_imTake {q i d : Nat} (hI : CI σ q) (hq : q < 4) (hi : i < 2) (hN : SK 24) (rN : SR σ 24) (hS : SK (96 + 4 * i) ∧ SR σ (96 + 4 * i)) (iN : ∃ x3 x4 x5 x6 : Int32, σ 24 3 = .int x3 ∧ σ 24 4 = .int x4 ∧ σ 24 5 = .int x5 ∧ σ 24 6 = .int x6) : Cq 33 [(.ref (94 : Nat)), .int (nI i), (.ref (24 : Nat)), .int (nI d)] σ Q = Q none (dm_up (dm_up (beF (96 + 4 * i) 24 σ) 104 i (.int (nI d))) 94 2 (.int (nI (q ||| 1 <<< i)))) := by
  obtain ⟨p0, p1, p2, p3⟩ := hI
  refine Cq_of (Er_of ?_)
  show Wq none 33 0 [some (.ref (94 : Nat)), some (.int (nI i)), some (.ref (24 : Nat)), some (.int (nI d)), none] [] σ _
  have e1 : beF (96 + 4 * i) 24 σ 94 1 = (.ref (104 : Nat)) := by
    unfold beF
    rw [if_neg (by omega), if_neg (by omega), p1]
  have e2 : beF (96 + 4 * i) 24 σ 94 2 = .int (nI q) := by
    unfold beF
    rw [if_neg (by omega), if_neg (by omega), p2]
  simp only [w33_0, w33_1, w33_4, w33_5, w33_8, w33_10, w33_12, w33_15, w33_17, w33_18, w33_21, w33_22, w33_25, w33_26, w33_27, w33_30, w33_31, w33_31i, w33_32, w33_35, w33_36, w33_37, w33_38, w33_39, w33_42, ks_94, p0, hS.1.1, c_stateAt (σ := σ) kt_95 (show i < kl 95 by rw [kl_95]; exact hi) (by rw [kl_95]; omega) (p3 i hi), c_become hS.1 hN hS.2 rN (Or.inr (by omega)) iN, e1, c_put kt_104 (show i < kl 104 by rw [kl_104]; exact hi) (by rw [kl_104]; omega), up_get, (by decide : ¬ (94 : Nat) = 104), false_and, e2, nI_shl 1 (show i < 32 by omega), nI_or, ↓reduceIte, Option.toList_some, Option.toList_none, List.cons_append, List.nil_append, and_self]
theorem c_heardClear : Cq 24 [(.ref (105 : Nat))] σ Q = Q none (dm_up (dm_up σ 105 0 (.int (-1))) 105 1 (.int (nI 0))) := by
  refine Cq_of (Er_of ?_)
  show Wq none 24 0 [some (.ref (105 : Nat))] [] σ _
  simp only [w24_0, w24_1, w24_2, w24_5, w24_6, w24_7, w24_10, ks_105, ↓reduceIte, Option.toList_some, Option.toList_none, List.cons_append, List.nil_append, and_self]
/-- the class's book: m entries, of guides bg at crossings bx -/
def CBk (σ : dm_G) (m : Nat) (bg bx : Nat → Nat) : Prop := σ 107 0 = .int (nI m) ∧ σ 107 1 = (.ref (108 : Nat)) ∧ σ 107 2 = (.ref (109 : Nat)) ∧ ∀ i, i < m → gi σ 108 i = nI (bg i) ∧ gi σ 109 i = nI (bx i)
theorem c_bkClear : Cq 1 [(.ref (107 : Nat))] σ Q = Q none (dm_up σ 107 0 (.int (nI 0))) := by
  refine Cq_of (Er_of ?_)
  show Wq none 1 0 [some (.ref (107 : Nat))] [] σ _
  simp only [w1_0, w1_1, w1_2, w1_5, ks_107, ↓reduceIte, Option.toList_some, Option.toList_none, List.cons_append, List.nil_append, and_self]
theorem c_bkAdd {m g x : Nat} {bg bx : Nat → Nat} (hb : CBk σ m bg bx) (h1 : m < kl 108) (h2 : m < kl 109) (h3 : kl 108 < 2 ^ 31) (h4 : kl 109 < 2 ^ 31) : Cq 2 [(.ref (107 : Nat)), .int (nI g), .int (nI x)] σ Q = Q none (dm_up (dm_up (dm_up σ 108 m (.int (nI g))) 109 m (.int (nI x))) 107 0 (.int (nI (m + 1)))) := by
  obtain ⟨p0, p1, p2, p3⟩ := hb
  refine Cq_of (Er_of ?_)
  show Wq none 2 0 [some (.ref (107 : Nat)), some (.int (nI g)), some (.int (nI x))] [] σ _
  simp only [w2_0, w2_1, w2_4, w2_5, w2_8, w2_9, w2_12, w2_13, w2_16, w2_17, w2_20, w2_21, w2_24, w2_25, w2_25i, w2_26, w2_29, w2_30, w2_31, w2_34, ks_107, p0, p1, p2, c_put kt_108 h1 h3, c_put kt_109 h2 h4, up_get, (by decide : ¬ (107 : Nat) = 108), (by decide : ¬ (107 : Nat) = 109), false_and, nI_add, ↓reduceIte, Option.toList_some, Option.toList_none, List.cons_append, List.nil_append, and_self]
end KP
