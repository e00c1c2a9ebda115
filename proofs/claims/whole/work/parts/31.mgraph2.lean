/-! the reference's graph: first turn, reach; who is who -/
theorem in_ok {x : Int32} {N : Nat} (hN : N < 2 ^ 30) : (lN 0 ≤ x.toInt64 ∧ x.toInt64 ≤ (nI N - nI 1).toInt64) ↔ ∃ j, j < N ∧ x = nI j := by
  rw [Int64.le_iff_toInt_le, Int64.le_iff_toInt_le, Int32.toInt_toInt64, Int32.toInt_toInt64, lN_toInt (show 0 < 2 ^ 31 by omega), pk_sub_toInt hN (show 1 < 2 ^ 30 by omega)]
  constructor
  · rintro ⟨h1, h2⟩
    refine ⟨x.toInt.toNat, by omega, ?_⟩
    apply Int32.toInt_inj.mp
    rw [nI_toInt (by omega)]
    omega
  · rintro ⟨j, hj, rfl⟩
    rw [nI_toInt (by omega)]
    omega
theorem in_ok2 {x : Int32} {a N : Nat} (hN : N < 2 ^ 30) (ha : a < 2 ^ 30) : (lN a ≤ x.toInt64 ∧ x.toInt64 ≤ lN N) ↔ ∃ j, a ≤ j ∧ j ≤ N ∧ x = nI j := by
  rw [Int64.le_iff_toInt_le, Int64.le_iff_toInt_le, Int32.toInt_toInt64, lN_toInt (show a < 2 ^ 31 by omega), lN_toInt (show N < 2 ^ 31 by omega)]
  constructor
  · rintro ⟨h1, h2⟩
    refine ⟨x.toInt.toNat, by omega, by omega, ?_⟩
    apply Int32.toInt_inj.mp
    rw [nI_toInt (by omega)]
    omega
  · rintro ⟨j, hj, h2, rfl⟩
    rw [nI_toInt (by omega)]
    omega
section MG2
variable {σ : dm_G} {c n : Nat → Nat} {Q : Option Value → dm_G → Prop}
theorem c_isCrossing {x : Int32} (hM : MR σ) (hc : MC σ c) (hw : WC c) (hx : ∃ j, j < c 0 ∧ x = nI j) : Cq 146 [(.ref (118 : Nat)), .int x] σ Q = Q (some (.int (nI 1))) σ := by
  obtain ⟨m0, m1, m2, m3, m5, m6, m8, m11, m12, m14, m22, m23, m24, m25, m29, m30, m31, m32⟩ := id hM
  obtain ⟨w0, w2, w3, w4, w5, w6, w7, w8, w9⟩ := id hw
  refine Cq_of (Er_of ?_)
  show Wq none 146 0 [some (.ref (118 : Nat)), some (.int x)] [] _ _
  have h := (in_ok (x := x) (show c 0 < 2 ^ 30 by omega)).mpr hx
  simp only [w146_0, w146_1, w146_2, w146_3, w146_4, w146_7, w146_8, w146_9, w146_10, w146_11, w146_12, w146_15, ks_118, m0, kt_119, in_nI (show 0 < kl 119 by rw [kl_119]; omega) (by rw [kl_119]; omega), nI_clamp (show 0 < 2 ^ 31 by omega), hc 0 (by omega), c_in, h, ↓reduceIte, Option.toList_some, Option.toList_none, List.cons_append, List.nil_append, (by decide : nI 1 &&& 1 = nI 1), (by decide : nI 0 &&& 1 = nI 0), and_self]
theorem c_isCrossing_f {x : Int32} (hM : MR σ) (hc : MC σ c) (hw : WC c) (hx : ¬ ∃ j, j < c 0 ∧ x = nI j) : Cq 146 [(.ref (118 : Nat)), .int x] σ Q = Q (some (.int (nI 0))) σ := by
  obtain ⟨m0, m1, m2, m3, m5, m6, m8, m11, m12, m14, m22, m23, m24, m25, m29, m30, m31, m32⟩ := id hM
  obtain ⟨w0, w2, w3, w4, w5, w6, w7, w8, w9⟩ := id hw
  refine Cq_of (Er_of ?_)
  show Wq none 146 0 [some (.ref (118 : Nat)), some (.int x)] [] _ _
  have h : ¬ (lN 0 ≤ x.toInt64 ∧ x.toInt64 ≤ (nI (c 0) - nI 1).toInt64) := fun z => hx ((in_ok (x := x) (show c 0 < 2 ^ 30 by omega)).mp z)
  simp only [w146_0, w146_1, w146_2, w146_3, w146_4, w146_7, w146_8, w146_9, w146_10, w146_11, w146_12, w146_15, ks_118, m0, kt_119, in_nI (show 0 < kl 119 by rw [kl_119]; omega) (by rw [kl_119]; omega), nI_clamp (show 0 < 2 ^ 31 by omega), hc 0 (by omega), c_in, h, ↓reduceIte, Option.toList_some, Option.toList_none, List.cons_append, List.nil_append, (by decide : nI 1 &&& 1 = nI 1), (by decide : nI 0 &&& 1 = nI 0), and_self]
theorem c_isGuide {x : Int32} (hM : MR σ) (hc : MC σ c) (hw : WC c) (hx : ∃ j, j < c 2 ∧ x = nI j) : Cq 147 [(.ref (118 : Nat)), .int x] σ Q = Q (some (.int (nI 1))) σ := by
  obtain ⟨m0, m1, m2, m3, m5, m6, m8, m11, m12, m14, m22, m23, m24, m25, m29, m30, m31, m32⟩ := id hM
  obtain ⟨w0, w2, w3, w4, w5, w6, w7, w8, w9⟩ := id hw
  refine Cq_of (Er_of ?_)
  show Wq none 147 0 [some (.ref (118 : Nat)), some (.int x)] [] _ _
  have h := (in_ok (x := x) (show c 2 < 2 ^ 30 by omega)).mpr hx
  simp only [w147_0, w147_1, w147_2, w147_3, w147_4, w147_7, w147_8, w147_9, w147_10, w147_11, w147_12, w147_15, ks_118, m0, kt_119, in_nI (show 2 < kl 119 by rw [kl_119]; omega) (by rw [kl_119]; omega), nI_clamp (show 2 < 2 ^ 31 by omega), hc 2 (by omega), c_in, h, ↓reduceIte, Option.toList_some, Option.toList_none, List.cons_append, List.nil_append, (by decide : nI 1 &&& 1 = nI 1), (by decide : nI 0 &&& 1 = nI 0), and_self]
theorem c_isGuide_f {x : Int32} (hM : MR σ) (hc : MC σ c) (hw : WC c) (hx : ¬ ∃ j, j < c 2 ∧ x = nI j) : Cq 147 [(.ref (118 : Nat)), .int x] σ Q = Q (some (.int (nI 0))) σ := by
  obtain ⟨m0, m1, m2, m3, m5, m6, m8, m11, m12, m14, m22, m23, m24, m25, m29, m30, m31, m32⟩ := id hM
  obtain ⟨w0, w2, w3, w4, w5, w6, w7, w8, w9⟩ := id hw
  refine Cq_of (Er_of ?_)
  show Wq none 147 0 [some (.ref (118 : Nat)), some (.int x)] [] _ _
  have h : ¬ (lN 0 ≤ x.toInt64 ∧ x.toInt64 ≤ (nI (c 2) - nI 1).toInt64) := fun z => hx ((in_ok (x := x) (show c 2 < 2 ^ 30 by omega)).mp z)
  simp only [w147_0, w147_1, w147_2, w147_3, w147_4, w147_7, w147_8, w147_9, w147_10, w147_11, w147_12, w147_15, ks_118, m0, kt_119, in_nI (show 2 < kl 119 by rw [kl_119]; omega) (by rw [kl_119]; omega), nI_clamp (show 2 < 2 ^ 31 by omega), hc 2 (by omega), c_in, h, ↓reduceIte, Option.toList_some, Option.toList_none, List.cons_append, List.nil_append, (by decide : nI 1 &&& 1 = nI 1), (by decide : nI 0 &&& 1 = nI 0), and_self]
theorem c_isClient {x : Int32} (hM : MR σ) (hc : MC σ c) (hw : WC c) (hx : ∃ j, j < c 3 ∧ x = nI j) : Cq 148 [(.ref (118 : Nat)), .int x] σ Q = Q (some (.int (nI 1))) σ := by
  obtain ⟨m0, m1, m2, m3, m5, m6, m8, m11, m12, m14, m22, m23, m24, m25, m29, m30, m31, m32⟩ := id hM
  obtain ⟨w0, w2, w3, w4, w5, w6, w7, w8, w9⟩ := id hw
  refine Cq_of (Er_of ?_)
  show Wq none 148 0 [some (.ref (118 : Nat)), some (.int x)] [] _ _
  have h := (in_ok (x := x) (show c 3 < 2 ^ 30 by omega)).mpr hx
  simp only [w148_0, w148_1, w148_2, w148_3, w148_4, w148_7, w148_8, w148_9, w148_10, w148_11, w148_12, w148_15, ks_118, m0, kt_119, in_nI (show 3 < kl 119 by rw [kl_119]; omega) (by rw [kl_119]; omega), nI_clamp (show 3 < 2 ^ 31 by omega), hc 3 (by omega), c_in, h, ↓reduceIte, Option.toList_some, Option.toList_none, List.cons_append, List.nil_append, (by decide : nI 1 &&& 1 = nI 1), (by decide : nI 0 &&& 1 = nI 0), and_self]
theorem c_isClient_f {x : Int32} (hM : MR σ) (hc : MC σ c) (hw : WC c) (hx : ¬ ∃ j, j < c 3 ∧ x = nI j) : Cq 148 [(.ref (118 : Nat)), .int x] σ Q = Q (some (.int (nI 0))) σ := by
  obtain ⟨m0, m1, m2, m3, m5, m6, m8, m11, m12, m14, m22, m23, m24, m25, m29, m30, m31, m32⟩ := id hM
  obtain ⟨w0, w2, w3, w4, w5, w6, w7, w8, w9⟩ := id hw
  refine Cq_of (Er_of ?_)
  show Wq none 148 0 [some (.ref (118 : Nat)), some (.int x)] [] _ _
  have h : ¬ (lN 0 ≤ x.toInt64 ∧ x.toInt64 ≤ (nI (c 3) - nI 1).toInt64) := fun z => hx ((in_ok (x := x) (show c 3 < 2 ^ 30 by omega)).mp z)
  simp only [w148_0, w148_1, w148_2, w148_3, w148_4, w148_7, w148_8, w148_9, w148_10, w148_11, w148_12, w148_15, ks_118, m0, kt_119, in_nI (show 3 < kl 119 by rw [kl_119]; omega) (by rw [kl_119]; omega), nI_clamp (show 3 < 2 ^ 31 by omega), hc 3 (by omega), c_in, h, ↓reduceIte, Option.toList_some, Option.toList_none, List.cons_append, List.nil_append, (by decide : nI 1 &&& 1 = nI 1), (by decide : nI 0 &&& 1 = nI 0), and_self]
theorem pow8 (hw : WC c) : 1 <<< c 0 < 2 ^ 30 := by
  rw [Nat.one_shiftLeft]
  exact Nat.lt_of_le_of_lt (Nat.pow_le_pow_right (by decide) hw.1) (by decide)
theorem c_isSet {x : Int32} (hM : MR σ) (hc : MC σ c) (hw : WC c) (hx : ∃ s, s < 2 ^ c 0 ∧ x = nI s) : Cq 149 [(.ref (118 : Nat)), .int x] σ Q = Q (some (.int (nI 1))) σ := by
  obtain ⟨m0, m1, m2, m3, m5, m6, m8, m11, m12, m14, m22, m23, m24, m25, m29, m30, m31, m32⟩ := id hM
  obtain ⟨w0, w2, w3, w4, w5, w6, w7, w8, w9⟩ := id hw
  refine Cq_of (Er_of ?_)
  show Wq none 149 0 [some (.ref (118 : Nat)), some (.int x)] [] _ _
  have h := (in_ok (x := x) (pow8 hw)).mpr (by rw [Nat.one_shiftLeft]; exact hx)
  simp only [w149_0, w149_1, w149_2, w149_3, w149_4, w149_5, w149_8, w149_9, w149_10, w149_11, w149_12, w149_13, w149_14, w149_17, ks_118, m0, kt_119, in_nI (show 0 < kl 119 by rw [kl_119]; omega) (by rw [kl_119]; omega), nI_clamp (show 0 < 2 ^ 31 by omega), hc 0 (by omega), nI_shl 1 (show c 0 < 32 by omega), c_in, h, ↓reduceIte, Option.toList_some, Option.toList_none, List.cons_append, List.nil_append, (by decide : nI 1 &&& 1 = nI 1), (by decide : nI 0 &&& 1 = nI 0), and_self]
theorem c_isSet_f {x : Int32} (hM : MR σ) (hc : MC σ c) (hw : WC c) (hx : ¬ ∃ s, s < 2 ^ c 0 ∧ x = nI s) : Cq 149 [(.ref (118 : Nat)), .int x] σ Q = Q (some (.int (nI 0))) σ := by
  obtain ⟨m0, m1, m2, m3, m5, m6, m8, m11, m12, m14, m22, m23, m24, m25, m29, m30, m31, m32⟩ := id hM
  obtain ⟨w0, w2, w3, w4, w5, w6, w7, w8, w9⟩ := id hw
  refine Cq_of (Er_of ?_)
  show Wq none 149 0 [some (.ref (118 : Nat)), some (.int x)] [] _ _
  have h : ¬ (lN 0 ≤ x.toInt64 ∧ x.toInt64 ≤ (nI (1 <<< c 0) - nI 1).toInt64) := fun z => hx (by have := (in_ok (x := x) (pow8 hw)).mp z; rw [Nat.one_shiftLeft] at this; exact this)
  simp only [w149_0, w149_1, w149_2, w149_3, w149_4, w149_5, w149_8, w149_9, w149_10, w149_11, w149_12, w149_13, w149_14, w149_17, ks_118, m0, kt_119, in_nI (show 0 < kl 119 by rw [kl_119]; omega) (by rw [kl_119]; omega), nI_clamp (show 0 < 2 ^ 31 by omega), hc 0 (by omega), nI_shl 1 (show c 0 < 32 by omega), c_in, h, ↓reduceIte, Option.toList_some, Option.toList_none, List.cons_append, List.nil_append, (by decide : nI 1 &&& 1 = nI 1), (by decide : nI 0 &&& 1 = nI 0), and_self]
-- first turn: where a way of d + 1 streets was laid
theorem l_mFirst {o a b d : Nat} (hM : MR σ) (hc : MC σ c) (hw : WC c) (ho : o < 2 ^ 31) (ha : a < c 0) (hb : b < c 0) (hs : sbN c a b o = some (d + 1)) : ∀ (f k : Nat), k + f = 3 → (∃ t, k ≤ t ∧ t < 3 ∧ ftP c a b o d t = true) → Wq none 154 24 [some (.ref (118 : Nat)), some (.int (nI o)), some (.int (nI a)), some (.int (nI k))] [] (aset σ (lay c o b)) Q = Q (some (.int (oI (fnd (ftP c a b o d) f k)))) (aset σ (lay c o b)) := by
  obtain ⟨m0, m1, m2, m3, m5, m6, m8, m11, m12, m14, m22, m23, m24, m25, m29, m30, m31, m32⟩ := id hM
  obtain ⟨w0, w2, w3, w4, w5, w6, w7, w8, w9⟩ := id hw
  have hd := sbN_lt hs
  have hl : lay c o b a = d + 1 := by rw [lay_sb hw ha hb, hs]
  have ha8 : a < kl 129 := by rw [kl_129]; omega
  have hF : FAR < 2 ^ 31 := by decide
  intro f
  induction f with
  | zero => rintro k hk ⟨t, h1, h2, -⟩; omega
  | succ f ih =>
    rintro k hk ⟨t, h1, h2, h3⟩
    have hbt := bt_eq (o := o) hw ha hb (show k < 3 by omega) (show d < 8 by omega)
    have hble : btN c (lay c o b) o a k ≤ FAR := by
      unfold btN
      split
      · omega
      · exact Nat.le_refl _
    rw [w154_24]
    by_cases hp : ftP c a b o d k = true
    · have e : btN c (lay c o b) o a k = d + 1 := hbt.mpr hp
      simp only [w154_0, w154_1, w154_4, w154_5, w154_6, w154_9, w154_10, w154_13, w154_14, w154_15, w154_17, w154_20, w154_21, w154_22, w154_23, w154_25, w154_26, w154_27, w154_28, w154_31, w154_32, w154_35, w154_36, w154_37, w154_40, w154_43, w154_46, w154_47, ks_118, aset_cell (σ := σ) (aw := lay c o b) (show 118 ≠ 129 by decide), m22, kt_129, c_byTurn hM hc hw ho ha (show k < 3 by omega) (lay_le c o b), in_nI ha8 (by rw [kl_129]; omega), nI_clamp (show a < 2 ^ 31 by omega), aset_gi (show a < 8 by omega), hl, e, fnd, hp, ↓reduceIte, Option.toList_some, Option.toList_none, List.cons_append, List.nil_append]
      rfl
    · have e : ¬ nI (btN c (lay c o b) o a k) = nI (d + 1) := fun z => hp (hbt.mp (nI_inj (by omega) (by omega) z))
      simp only [w154_0, w154_1, w154_4, w154_5, w154_6, w154_9, w154_10, w154_13, w154_14, w154_15, w154_17, w154_20, w154_21, w154_22, w154_23, w154_25, w154_26, w154_27, w154_28, w154_31, w154_32, w154_35, w154_36, w154_37, w154_40, w154_43, w154_46, w154_47, ks_118, aset_cell (σ := σ) (aw := lay c o b) (show 118 ≠ 129 by decide), m22, kt_129, c_byTurn hM hc hw ho ha (show k < 3 by omega) (lay_le c o b), in_nI ha8 (by rw [kl_129]; omega), nI_clamp (show a < 2 ^ 31 by omega), aset_gi (show a < 8 by omega), hl, e, fnd, hp, nI_add, ↓reduceIte, Option.toList_some, Option.toList_none, List.cons_append, List.nil_append]
      refine ih (k + 1) (by omega) ⟨t, ?_, h2, h3⟩
      rcases Nat.eq_or_lt_of_le h1 with rfl | h4
      · exact absurd h3 hp
      · exact h4
theorem c_mFirst {o a b : Nat} (hM : MR σ) (hc : MC σ c) (hw : WC c) (ho : o < 2 ^ 31) (ha : a < c 0) (hb : b < c 0) : Cq 154 [(.ref (118 : Nat)), .int (nI o), .int (nI a)] (aset σ (lay c o b)) Q = Q (some (.int (oI (ftN c a b o)))) (aset σ (lay c o b)) := by
  obtain ⟨m0, m1, m2, m3, m5, m6, m8, m11, m12, m14, m22, m23, m24, m25, m29, m30, m31, m32⟩ := id hM
  obtain ⟨w0, w2, w3, w4, w5, w6, w7, w8, w9⟩ := id hw
  refine Cq_of (Er_of ?_)
  show Wq none 154 0 [some (.ref (118 : Nat)), some (.int (nI o)), some (.int (nI a)), none] [] _ _
  have ha8 : a < kl 129 := by rw [kl_129]; omega
  have hl := lay_sb (o := o) hw ha hb
  unfold ftN
  cases h : sbN c a b o with
  | none =>
    rw [h] at hl
    have e : ¬ nI FAR = nI 0 := by decide
    have e2 : ¬ nI FAR < nI 100000000 := by decide
    simp only [w154_0, w154_1, w154_4, w154_5, w154_6, w154_9, w154_10, w154_13, w154_14, w154_15, w154_17, w154_20, w154_21, w154_22, w154_23, w154_25, w154_26, w154_27, w154_28, w154_31, w154_32, w154_35, w154_36, w154_37, w154_40, w154_43, w154_46, w154_47, ks_118, aset_cell (σ := σ) (aw := lay c o b) (show 118 ≠ 129 by decide), m22, kt_129, in_nI ha8 (by rw [kl_129]; omega), nI_clamp (show a < 2 ^ 31 by omega), aset_gi (show a < 8 by omega), hl, e, e2, oI, ↓reduceIte, Option.toList_some, Option.toList_none, List.cons_append, List.nil_append, and_self]
  | some d =>
    rw [h] at hl
    cases d with
    | zero => simp only [w154_0, w154_1, w154_4, w154_5, w154_6, w154_9, w154_10, w154_13, w154_14, w154_15, w154_17, w154_20, w154_21, w154_22, w154_23, w154_25, w154_26, w154_27, w154_28, w154_31, w154_32, w154_35, w154_36, w154_37, w154_40, w154_43, w154_46, w154_47, ks_118, aset_cell (σ := σ) (aw := lay c o b) (show 118 ≠ 129 by decide), m22, kt_129, in_nI ha8 (by rw [kl_129]; omega), nI_clamp (show a < 2 ^ 31 by omega), aset_gi (show a < 8 by omega), hl, oI, ↓reduceIte, Option.toList_some, Option.toList_none, List.cons_append, List.nil_append, and_self]
    | succ d =>
      have hd := sbN_lt h
      have e : ¬ nI (d + 1) = nI 0 := fun z => by have := nI_inj (by omega) (by omega) z; omega
      have e2 : nI (d + 1) < nI 100000000 := nI_lt (by omega) (by omega)
      have h1 := l_mFirst (Q := fun r' σ2 => r' = some (.int (oI (fnd (ftP c a b o d) 3 0))) ∧ σ2 = aset σ (lay c o b)) hM hc hw ho ha hb h 3 0 (by omega) (by
        obtain ⟨t, h2, h3⟩ := sb_step hw ha h
        exact ⟨t, Nat.zero_le _, h2, h3⟩)
      simp only [w154_0, w154_1, w154_4, w154_5, w154_6, w154_9, w154_10, w154_13, w154_14, w154_15, w154_17, w154_20, w154_21, w154_22, w154_23, w154_25, w154_26, w154_27, w154_28, w154_31, w154_32, w154_35, w154_36, w154_37, w154_40, w154_43, w154_46, w154_47, ks_118, aset_cell (σ := σ) (aw := lay c o b) (show 118 ≠ 129 by decide), m22, kt_129, in_nI ha8 (by rw [kl_129]; omega), nI_clamp (show a < 2 ^ 31 by omega), aset_gi (show a < 8 by omega), hl, e, e2, h1, ↓reduceIte, Option.toList_some, Option.toList_none, List.cons_append, List.nil_append, and_self]
theorem c_streets {g e : Nat} (hM : MR σ) (hc : MC σ c) (hn : MN σ n) (hw : WC c) (hg : g < c 2) (he : e < c 3) (hk : n (6 + g) < 2 ^ 31) : Cq 159 [(.ref (118 : Nat)), .int (nI g), .int (nI e)] σ Q = Q (some (.int (nI (lay c (andn (n (6 + g)) (n 19)) (c (61 + e)) (c (55 + e)))))) (aset σ (lay c (andn (n (6 + g)) (n 19)) (c (61 + e)))) := by
  obtain ⟨m0, m1, m2, m3, m5, m6, m8, m11, m12, m14, m22, m23, m24, m25, m29, m30, m31, m32⟩ := id hM
  obtain ⟨w0, w2, w3, w4, w5, w6, w7, w8, w9⟩ := id hw
  refine Cq_of (Er_of ?_)
  show Wq none 159 0 [some (.ref (118 : Nat)), some (.int (nI g)), some (.int (nI e))] [] _ _
  have h1 := (w8 e he).1
  have h2 := (w8 e he).2
  simp only [w159_0, w159_1, w159_2, w159_3, w159_6, w159_7, w159_10, w159_12, w159_13, w159_14, w159_15, w159_16, w159_19, w159_21, w159_22, w159_23, w159_24, w159_27, ks_118, m0, kt_119, c_open hM hn (show g < 6 by omega), nI_add, in_nI (show 55 + e < kl 119 by rw [kl_119]; omega) (by rw [kl_119]; omega), in_nI (show 61 + e < kl 119 by rw [kl_119]; omega) (by rw [kl_119]; omega), nI_clamp (show 55 + e < 2 ^ 31 by omega), nI_clamp (show 61 + e < 2 ^ 31 by omega), hc _ (show 55 + e < 79 by omega), hc _ (show 61 + e < 79 by omega), c_length hM hc hw (andn_lt hk) (show c (61 + e) < 2 ^ 31 by omega) (show c (55 + e) < 8 by omega), ↓reduceIte, Option.toList_some, Option.toList_none, List.cons_append, List.nil_append, and_self]
/-- what a guide asks for so many streets -/
def csN (c : Nat → Nat) (k g d : Nat) : Nat := if 5 ≤ moN c k then c (43 + g) * d / 2 else c (43 + g) * d
theorem c_cost {g d : Nat} (hM : MR σ) (hc : MC σ c) (hn : MN σ n) (hw : WC c) (hk : n 20 < 2 ^ 31) (hg : g < c 2) (hd : d ≤ 8) : Cq 158 [(.ref (118 : Nat)), .int (nI g), .int (nI d)] σ Q = Q (some (.int (nI (csN c (n 20) g d)))) σ := by
  obtain ⟨m0, m1, m2, m3, m5, m6, m8, m11, m12, m14, m22, m23, m24, m25, m29, m30, m31, m32⟩ := id hM
  obtain ⟨w0, w2, w3, w4, w5, w6, w7, w8, w9⟩ := id hw
  refine Cq_of (Er_of ?_)
  show Wq none 158 0 [some (.ref (118 : Nat)), some (.int (nI g)), some (.int (nI d)), none] [] _ _
  have hmo : moN c (n 20) ≤ 9 := by
    unfold moN
    split
    · omega
    · exact w9 _ (Nat.mod_lt _ (by omega))
  have hp : c (43 + g) * d ≤ 99 * 8 := Nat.mul_le_mul (w7 g hg).2.1 hd
  unfold csN
  by_cases h : 5 ≤ moN c (n 20)
  · have h1 : nI 4 < nI (moN c (n 20)) := nI_lt (by omega) (by omega)
    have h1' : ¬ nI (moN c (n 20)) ≤ nI 4 := nI_ge (by omega) (by omega)
    simp only [w158_0, w158_1, w158_4, w158_6, w158_7, w158_8, w158_9, w158_10, w158_11, w158_12, w158_13, w158_16, w158_17, w158_20, w158_21, w158_22, w158_23, w158_26, w158_27, ks_118, m0, kt_119, nI_add, in_nI (show 43 + g < kl 119 by rw [kl_119]; omega) (by rw [kl_119]; omega), nI_clamp (show 43 + g < 2 ^ 31 by omega), hc _ (show 43 + g < 79 by omega), pk_mul, c_moon hM hc hn hw hk, h1, h1', h, (by decide : ¬ nI 2 = 0), not_false_eq_true, pk_div (show c (43 + g) * d < 2 ^ 31 by omega) (show 0 < 2 by omega) (show 2 < 2 ^ 31 by omega), ↓reduceIte, Option.toList_some, Option.toList_none, List.cons_append, List.nil_append, and_self]
  · have h1 : ¬ nI 4 < nI (moN c (n 20)) := nI_nlt (by omega) (by omega)
    have h1' : nI (moN c (n 20)) ≤ nI 4 := nI_le (by omega) (by omega)
    simp only [w158_0, w158_1, w158_4, w158_6, w158_7, w158_8, w158_9, w158_10, w158_11, w158_12, w158_13, w158_16, w158_17, w158_20, w158_21, w158_22, w158_23, w158_26, w158_27, ks_118, m0, kt_119, nI_add, in_nI (show 43 + g < kl 119 by rw [kl_119]; omega) (by rw [kl_119]; omega), nI_clamp (show 43 + g < 2 ^ 31 by omega), hc _ (show 43 + g < 79 by omega), pk_mul, c_moon hM hc hn hw hk, h1, h1', h, ↓reduceIte, Option.toList_some, Option.toList_none, List.cons_append, List.nil_append, and_self]
end MG2
