/-! the reference: reach, ring, sets turned, listen, talk -/
section ML
variable {σ : dm_G} {c n : Nat → Nat} {Q : Option Value → dm_G → Prop}
theorem l_reK {g x s rr : Nat} {R : Prop} (hM : MR σ) (hc : MC σ c) (hn : MN σ n) (hw : WC c) (hg : g < 6) (hx : x < c 0) (hs : s < 2 ^ c 0) (hk6 : n (6 + g) < 2 ^ 31)
    (kk : ∀ v5 v6 : Option Value, Wq none 155 22 [some (.ref (118 : Nat)), some (.int (nI g)), some (.int (nI (rcK c (andn (n (6 + g)) (n 19)) x s 3))), some (.int (nI rr)), some (.int (nI (x + 1))), v5, v6] [] σ Q = R) :
    ∀ (f k : Nat) (v6 : Option Value), k + f = 3 → Wq none 155 36 [some (.ref (118 : Nat)), some (.int (nI g)), some (.int (nI (rcK c (andn (n (6 + g)) (n 19)) x s k))), some (.int (nI rr)), some (.int (nI x)), some (.int (nI k)), v6] [] σ Q = R := by
  obtain ⟨m0, m1, m2, m3, m5, m6, m8, m11, m12, m14, m22, m23, m24, m25, m29, m30, m31, m32⟩ := id hM
  obtain ⟨w0, w2, w3, w4, w5, w6, w7, w8, w9⟩ := id hw
  have hp : 2 ^ c 0 ≤ 2 ^ 31 := Nat.pow_le_pow_right (by decide) (by omega)
  intro f
  induction f with
  | zero =>
    intro k v6 hk
    obtain rfl : k = 3 := by omega
    rw [w155_36]
    simp only [w155_0, w155_1, w155_2, w155_5, w155_6, w155_7, w155_8, w155_9, w155_10, w155_11, w155_12, w155_14, w155_16, w155_19, w155_20, w155_24, w155_25, w155_28, w155_29, w155_30, w155_33, w155_34, w155_38, w155_39, w155_42, w155_43, w155_45, w155_47, w155_50, w155_52, w155_53, w155_54, w155_56, w155_59, w155_62, w155_63, w155_64, w155_67, w155_69, w155_72, w155_75, w155_76, w155_78, w155_79, w155_82, w155_83, w155_84, w155_85, w155_88, w155_91, w155_94, w155_97, w155_100, w155_103, w155_104, (by decide : nI 3 ≤ nI 3), nI_add, ↓reduceIte, Option.toList_some, Option.toList_none, List.cons_append, List.nil_append]
    exact kk _ _
  | succ f ih =>
    intro k v6 hk
    have h1 : ¬ nI 3 ≤ nI k := nI_ge (by omega) (by omega)
    have hT := Tn_lt hw hx (show k < 3 by omega)
    have hT' : c (13 + (3 * x + k)) = Tn c x k := rfl
    have hS := Nat.lt_of_lt_of_le (rcK_lt (o := andn (n (6 + g)) (n 19)) hw hx hs k (by omega)) hp
    have ih := ih (k + 1) (some (.int (nI (Tn c x k)))) (by omega)
    rw [w155_36]
    by_cases h2 : (rcK c (andn (n (6 + g)) (n 19)) x s k).testBit x = true
    · by_cases h3 : (andn (n (6 + g)) (n 19)).testBit (Tn c x k) = true
      · rw [rcK, if_pos ⟨h2, h3⟩] at ih
        simp only [w155_0, w155_1, w155_2, w155_5, w155_6, w155_7, w155_8, w155_9, w155_10, w155_11, w155_12, w155_14, w155_16, w155_19, w155_20, w155_24, w155_25, w155_28, w155_29, w155_30, w155_33, w155_34, w155_38, w155_39, w155_42, w155_43, w155_45, w155_47, w155_50, w155_52, w155_53, w155_54, w155_56, w155_59, w155_62, w155_63, w155_64, w155_67, w155_69, w155_72, w155_75, w155_76, w155_78, w155_79, w155_82, w155_83, w155_84, w155_85, w155_88, w155_91, w155_94, w155_97, w155_100, w155_103, w155_104, h1, ks_118, c_turned hM hc (show 13 + (3 * x + k) < 79 by omega), hT', c_has hS (show x < 32 by omega), h2, nI_ne1, c_open hM hn hg, c_has (andn_lt hk6) (show Tn c x k < 32 by omega), h3, nI_shl 1 (show Tn c x k < 32 by omega), nI_or, nI_add, ↓reduceIte, Option.toList_some, Option.toList_none, List.cons_append, List.nil_append]
        exact ih
      · rw [rcK, if_neg (fun z => h3 z.2)] at ih
        simp only [w155_0, w155_1, w155_2, w155_5, w155_6, w155_7, w155_8, w155_9, w155_10, w155_11, w155_12, w155_14, w155_16, w155_19, w155_20, w155_24, w155_25, w155_28, w155_29, w155_30, w155_33, w155_34, w155_38, w155_39, w155_42, w155_43, w155_45, w155_47, w155_50, w155_52, w155_53, w155_54, w155_56, w155_59, w155_62, w155_63, w155_64, w155_67, w155_69, w155_72, w155_75, w155_76, w155_78, w155_79, w155_82, w155_83, w155_84, w155_85, w155_88, w155_91, w155_94, w155_97, w155_100, w155_103, w155_104, h1, ks_118, c_turned hM hc (show 13 + (3 * x + k) < 79 by omega), hT', c_has hS (show x < 32 by omega), h2, nI_ne1, c_open hM hn hg, c_has (andn_lt hk6) (show Tn c x k < 32 by omega), h3, nI_or, Nat.or_zero, nI_add, ↓reduceIte, Option.toList_some, Option.toList_none, List.cons_append, List.nil_append, Bool.false_eq_true]
        exact ih
    · rw [rcK, if_neg (fun z => h2 z.1)] at ih
      simp only [w155_0, w155_1, w155_2, w155_5, w155_6, w155_7, w155_8, w155_9, w155_10, w155_11, w155_12, w155_14, w155_16, w155_19, w155_20, w155_24, w155_25, w155_28, w155_29, w155_30, w155_33, w155_34, w155_38, w155_39, w155_42, w155_43, w155_45, w155_47, w155_50, w155_52, w155_53, w155_54, w155_56, w155_59, w155_62, w155_63, w155_64, w155_67, w155_69, w155_72, w155_75, w155_76, w155_78, w155_79, w155_82, w155_83, w155_84, w155_85, w155_88, w155_91, w155_94, w155_97, w155_100, w155_103, w155_104, h1, ks_118, c_turned hM hc (show 13 + (3 * x + k) < 79 by omega), hT', c_has hS (show x < 32 by omega), h2, nI_or, Nat.or_zero, nI_add, ↓reduceIte, Option.toList_some, Option.toList_none, List.cons_append, List.nil_append, Bool.false_eq_true]
      exact ih
theorem l_reX {g s rr : Nat} {R : Prop} (hM : MR σ) (hc : MC σ c) (hn : MN σ n) (hw : WC c) (hg : g < 6) (hs : s < 2 ^ c 0) (hk6 : n (6 + g) < 2 ^ 31)
    (kk : ∀ v4 v5 v6 : Option Value, Wq none 155 13 [some (.ref (118 : Nat)), some (.int (nI g)), some (.int (nI (rcX c (andn (n (6 + g)) (n 19)) s (c 0)))), some (.int (nI (rr + 1))), v4, v5, v6] [] σ Q = R) :
    ∀ (f x : Nat) (v5 v6 : Option Value), x + f = c 0 → Wq none 155 22 [some (.ref (118 : Nat)), some (.int (nI g)), some (.int (nI (rcX c (andn (n (6 + g)) (n 19)) s x))), some (.int (nI rr)), some (.int (nI x)), v5, v6] [] σ Q = R := by
  obtain ⟨m0, m1, m2, m3, m5, m6, m8, m11, m12, m14, m22, m23, m24, m25, m29, m30, m31, m32⟩ := id hM
  obtain ⟨w0, w2, w3, w4, w5, w6, w7, w8, w9⟩ := id hw
  intro f
  induction f with
  | zero =>
    intro x v5 v6 hx
    obtain rfl : x = c 0 := by omega
    have h1 : nI (c 0) ≤ nI (c 0) := nI_le (Nat.le_refl _) (by omega)
    rw [w155_22]
    simp only [w155_0, w155_1, w155_2, w155_5, w155_6, w155_7, w155_8, w155_9, w155_10, w155_11, w155_12, w155_14, w155_16, w155_19, w155_20, w155_24, w155_25, w155_28, w155_29, w155_30, w155_33, w155_34, w155_38, w155_39, w155_42, w155_43, w155_45, w155_47, w155_50, w155_52, w155_53, w155_54, w155_56, w155_59, w155_62, w155_63, w155_64, w155_67, w155_69, w155_72, w155_75, w155_76, w155_78, w155_79, w155_82, w155_83, w155_84, w155_85, w155_88, w155_91, w155_94, w155_97, w155_100, w155_103, w155_104, ks_118, m0, kt_119, in_nI (show 0 < kl 119 by rw [kl_119]; omega) (by rw [kl_119]; omega), nI_clamp (show 0 < 2 ^ 31 by omega), hc 0 (by omega), h1, nI_add, ↓reduceIte, Option.toList_some, Option.toList_none, List.cons_append, List.nil_append]
    exact kk _ _ _
  | succ f ih =>
    intro x v5 v6 hx
    have h1 : ¬ nI (c 0) ≤ nI x := nI_ge (by omega) (by omega)
    have hK := l_reK (Q := Q) (R := R) (rr := rr) hM hc hn hw hg (show x < c 0 by omega) (rcX_lt (o := andn (n (6 + g)) (n 19)) hw hs x (by omega)) hk6 (fun v5 v6 => ih (x + 1) v5 v6 (by omega)) 3 0
    rw [w155_22]
    simp only [w155_0, w155_1, w155_2, w155_5, w155_6, w155_7, w155_8, w155_9, w155_10, w155_11, w155_12, w155_14, w155_16, w155_19, w155_20, w155_24, w155_25, w155_28, w155_29, w155_30, w155_33, w155_34, w155_38, w155_39, w155_42, w155_43, w155_45, w155_47, w155_50, w155_52, w155_53, w155_54, w155_56, w155_59, w155_62, w155_63, w155_64, w155_67, w155_69, w155_72, w155_75, w155_76, w155_78, w155_79, w155_82, w155_83, w155_84, w155_85, w155_88, w155_91, w155_94, w155_97, w155_100, w155_103, w155_104, ks_118, m0, kt_119, in_nI (show 0 < kl 119 by rw [kl_119]; omega) (by rw [kl_119]; omega), nI_clamp (show 0 < 2 ^ 31 by omega), hc 0 (by omega), h1, ↓reduceIte, Option.toList_some, Option.toList_none, List.cons_append, List.nil_append]
    exact hK v6 (by omega)
theorem l_reR {g s : Nat} (hM : MR σ) (hc : MC σ c) (hn : MN σ n) (hw : WC c) (hg : g < 6) (hs : s < 2 ^ c 0) (hk6 : n (6 + g) < 2 ^ 31) :
    ∀ (f r : Nat) (v4 v5 v6 : Option Value), r + f = 8 → Wq none 155 13 [some (.ref (118 : Nat)), some (.int (nI g)), some (.int (nI (rcR c (andn (n (6 + g)) (n 19)) s r))), some (.int (nI r)), v4, v5, v6] [] σ Q = Q (some (.int (nI (rcR c (andn (n (6 + g)) (n 19)) s 8)))) σ := by
  obtain ⟨m0, m1, m2, m3, m5, m6, m8, m11, m12, m14, m22, m23, m24, m25, m29, m30, m31, m32⟩ := id hM
  intro f
  induction f with
  | zero =>
    intro r v4 v5 v6 hr
    obtain rfl : r = 8 := by omega
    rw [w155_13]
    simp only [w155_0, w155_1, w155_2, w155_5, w155_6, w155_7, w155_8, w155_9, w155_10, w155_11, w155_12, w155_14, w155_16, w155_19, w155_20, w155_24, w155_25, w155_28, w155_29, w155_30, w155_33, w155_34, w155_38, w155_39, w155_42, w155_43, w155_45, w155_47, w155_50, w155_52, w155_53, w155_54, w155_56, w155_59, w155_62, w155_63, w155_64, w155_67, w155_69, w155_72, w155_75, w155_76, w155_78, w155_79, w155_82, w155_83, w155_84, w155_85, w155_88, w155_91, w155_94, w155_97, w155_100, w155_103, w155_104, (by decide : nI 8 ≤ nI 8), ↓reduceIte, Option.toList_some, Option.toList_none, List.cons_append, List.nil_append]
  | succ f ih =>
    intro r v4 v5 v6 hr
    have h1 : ¬ nI 8 ≤ nI r := nI_ge (by omega) (by omega)
    have hX := l_reX (Q := Q) (rr := r) (R := Q (some (.int (nI (rcR c (andn (n (6 + g)) (n 19)) s 8)))) σ) hM hc hn hw hg (rcR_lt (o := andn (n (6 + g)) (n 19)) hw hs r) hk6 (fun v4 v5 v6 => ih (r + 1) v4 v5 v6 (by omega)) (c 0) 0
    rw [w155_13]
    simp only [w155_0, w155_1, w155_2, w155_5, w155_6, w155_7, w155_8, w155_9, w155_10, w155_11, w155_12, w155_14, w155_16, w155_19, w155_20, w155_24, w155_25, w155_28, w155_29, w155_30, w155_33, w155_34, w155_38, w155_39, w155_42, w155_43, w155_45, w155_47, w155_50, w155_52, w155_53, w155_54, w155_56, w155_59, w155_62, w155_63, w155_64, w155_67, w155_69, w155_72, w155_75, w155_76, w155_78, w155_79, w155_82, w155_83, w155_84, w155_85, w155_88, w155_91, w155_94, w155_97, w155_100, w155_103, w155_104, h1, ↓reduceIte, Option.toList_some, Option.toList_none, List.cons_append, List.nil_append]
    exact hX v5 v6 (by omega)
theorem c_mReach {g : Nat} (hM : MR σ) (hc : MC σ c) (hn : MN σ n) (hw : WC c) (hg : g < 6) (ha : n g < c 0) (hk6 : n (6 + g) < 2 ^ 31) : Cq 155 [(.ref (118 : Nat)), .int (nI g)] σ Q = Q (some (.int (nI (sN c (n g) (andn (n (6 + g)) (n 19)) (c 0))))) σ := by
  obtain ⟨m0, m1, m2, m3, m5, m6, m8, m11, m12, m14, m22, m23, m24, m25, m29, m30, m31, m32⟩ := id hM
  obtain ⟨w0, w2, w3, w4, w5, w6, w7, w8, w9⟩ := id hw
  refine Cq_of (Er_of ?_)
  show Wq none 155 0 [some (.ref (118 : Nat)), some (.int (nI g)), none, none, none, none, none] [] _ _
  rw [← reach_eq hw ha]
  have h3 := l_reR (Q := fun r' σ2 => r' = some (.int (nI (rcR c (andn (n (6 + g)) (n 19)) (1 <<< n g) 8))) ∧ σ2 = σ) hM hc hn hw hg (one_shl ha : 1 <<< n g < 2 ^ c 0) hk6 8 0 none none none (by omega)
  rw [show rcR c (andn (n (6 + g)) (n 19)) (1 <<< n g) 0 = 1 <<< n g from rfl] at h3
  have hg0 : 0 + g = g := Nat.zero_add g
  simp only [w155_0, w155_1, w155_2, w155_5, w155_6, w155_7, w155_8, w155_9, w155_10, w155_11, w155_12, w155_14, w155_16, w155_19, w155_20, w155_24, w155_25, w155_28, w155_29, w155_30, w155_33, w155_34, w155_38, w155_39, w155_42, w155_43, w155_45, w155_47, w155_50, w155_52, w155_53, w155_54, w155_56, w155_59, w155_62, w155_63, w155_64, w155_67, w155_69, w155_72, w155_75, w155_76, w155_78, w155_79, w155_82, w155_83, w155_84, w155_85, w155_88, w155_91, w155_94, w155_97, w155_100, w155_103, w155_104, ks_118, m2, kt_121, nI_add, hg0, in_nI (show g < kl 121 by rw [kl_121]; omega) (by rw [kl_121]; omega), nI_clamp (show g < 2 ^ 31 by omega), hn g (by omega), nI_shl 1 (show n g < 32 by omega), h3, and_self]
theorem l_turnedSet {s t : Nat} (hM : MR σ) (hc : MC σ c) (hw : WC c) (hs : s < 2 ^ 31) (ht : t < 3) : ∀ (f x : Nat), x + f = c 0 → Wq none 186 5 [some (.ref (118 : Nat)), some (.int (nI s)), some (.int (nI t)), some (.int (nI (endsN c s t x))), some (.int (nI x))] [] σ Q = Q (some (.int (nI (endsN c s t (c 0))))) σ := by
  obtain ⟨m0, m1, m2, m3, m5, m6, m8, m11, m12, m14, m22, m23, m24, m25, m29, m30, m31, m32⟩ := id hM
  obtain ⟨w0, w2, w3, w4, w5, w6, w7, w8, w9⟩ := id hw
  intro f
  induction f with
  | zero =>
    intro x hx
    obtain rfl : x = c 0 := by omega
    have h1 : nI (c 0) ≤ nI (c 0) := nI_le (Nat.le_refl _) (by omega)
    rw [w186_5]
    simp only [w186_0, w186_1, w186_2, w186_3, w186_7, w186_8, w186_11, w186_12, w186_13, w186_16, w186_17, w186_18, w186_20, w186_23, w186_26, w186_27, w186_28, w186_30, w186_31, w186_34, w186_35, w186_38, w186_39, w186_40, w186_41, w186_44, w186_47, w186_48, ks_118, m0, kt_119, in_nI (show 0 < kl 119 by rw [kl_119]; omega) (by rw [kl_119]; omega), nI_clamp (show 0 < 2 ^ 31 by omega), hc 0 (by omega), h1, ↓reduceIte, Option.toList_some, Option.toList_none, List.cons_append, List.nil_append]
  | succ f ih =>
    intro x hx
    have h1 : ¬ nI (c 0) ≤ nI x := nI_ge (by omega) (by omega)
    have hT := w6 (3 * x + t) (by omega)
    have ih := ih (x + 1) (by omega)
    rw [w186_5]
    by_cases hb : s.testBit x = true
    · rw [endsN, if_pos hb] at ih
      simp only [w186_0, w186_1, w186_2, w186_3, w186_7, w186_8, w186_11, w186_12, w186_13, w186_16, w186_17, w186_18, w186_20, w186_23, w186_26, w186_27, w186_28, w186_30, w186_31, w186_34, w186_35, w186_38, w186_39, w186_40, w186_41, w186_44, w186_47, w186_48, ks_118, m0, kt_119, in_nI (show 0 < kl 119 by rw [kl_119]; omega) (by rw [kl_119]; omega), nI_clamp (show 0 < 2 ^ 31 by omega), hc 0 (by omega), h1, c_has hs (show x < 32 by omega), hb, nI_ne1, c_turned hM hc (show 13 + (3 * x + t) < 79 by omega), nI_shl 1 (show c (13 + (3 * x + t)) < 32 by omega), nI_or, nI_add, ↓reduceIte, Option.toList_some, Option.toList_none, List.cons_append, List.nil_append]
      exact ih
    · rw [endsN, if_neg hb] at ih
      simp only [w186_0, w186_1, w186_2, w186_3, w186_7, w186_8, w186_11, w186_12, w186_13, w186_16, w186_17, w186_18, w186_20, w186_23, w186_26, w186_27, w186_28, w186_30, w186_31, w186_34, w186_35, w186_38, w186_39, w186_40, w186_41, w186_44, w186_47, w186_48, ks_118, m0, kt_119, in_nI (show 0 < kl 119 by rw [kl_119]; omega) (by rw [kl_119]; omega), nI_clamp (show 0 < 2 ^ 31 by omega), hc 0 (by omega), h1, c_has hs (show x < 32 by omega), hb, nI_or, Nat.or_zero, nI_add, ↓reduceIte, Option.toList_some, Option.toList_none, List.cons_append, List.nil_append, Bool.false_eq_true]
      exact ih
theorem c_turnedSet {s t : Nat} (hM : MR σ) (hc : MC σ c) (hw : WC c) (hs : s < 2 ^ 31) (ht : t < 3) : Cq 186 [(.ref (118 : Nat)), .int (nI s), .int (nI t)] σ Q = Q (some (.int (nI (endsN c s t (c 0))))) σ := by
  refine Cq_of (Er_of ?_)
  show Wq none 186 0 [some (.ref (118 : Nat)), some (.int (nI s)), some (.int (nI t)), none, none] [] _ _
  have h3 := l_turnedSet (Q := fun r' σ2 => r' = some (.int (nI (endsN c s t (c 0)))) ∧ σ2 = σ) hM hc hw hs ht (c 0) 0 (by omega)
  rw [show endsN c s t 0 = 0 from rfl] at h3
  simp only [w186_0, w186_1, w186_2, w186_3, w186_7, w186_8, w186_11, w186_12, w186_13, w186_16, w186_17, w186_18, w186_20, w186_23, w186_26, w186_27, w186_28, w186_30, w186_31, w186_34, w186_35, w186_38, w186_39, w186_40, w186_41, w186_44, w186_47, w186_48, h3, and_self]
/-- the heads of the guides below g of a set -/
def hdN (n : Nat → Nat) (s : Nat) : Nat → Nat := fun g => match g with
  | 0 => 0
  | g + 1 => if s.testBit g = true then hdN n s g ||| n (12 + g) else hdN n s g
def haN (n : Nat → Nat) : Nat → Nat := fun g => match g with
  | 0 => 0
  | g + 1 => haN n g ||| n (12 + g)
theorem l_tkA (hM : MR σ) (hc : MC σ c) (hn : MN σ n) (hw : WC c) {R : Prop} (kk : ∀ v : Option Value, Wq none 159 36 [some (.ref (118 : Nat)), some (.int (nI (haN n (c 2)))), some (.int (-1)), some (.int (nI 0)), none, none] [] σ Q = R) : ∀ (f g : Nat), g + f = c 2 → Wq none 159 4 [some (.ref (118 : Nat)), some (.int (nI (haN n g))), some (.int (nI g)), none, none, none] [] σ Q = R := by
  obtain ⟨m0, m1, m2, m3, m5, m6, m8, m11, m12, m14, m22, m23, m24, m25, m29, m30, m31, m32⟩ := id hM
  obtain ⟨w0, w2, w3, w4, w5, w6, w7, w8, w9⟩ := id hw
  intro f
  induction f with
  | zero =>
    intro g hg
    obtain rfl : g = c 2 := by omega
    have h1 : nI (c 2) ≤ nI (c 2) := nI_le (Nat.le_refl _) (by omega)
    rw [w159_4]
    simp only [w159_0, w159_1, w159_2, w159_3, w159_5, w159_6, w159_9, w159_10, w159_11, w159_14, w159_15, w159_16, w159_19, w159_21, w159_22, w159_23, w159_24, w159_25, w159_26, w159_29, w159_32, w159_33, w159_34, w159_35, w159_37, w159_38, w159_39, w159_42, w159_43, w159_44, w159_45, w159_48, w159_49, w159_51, w159_52, w159_56, w159_57, w159_60, w159_61, w159_62, w159_65, w159_67, w159_68, w159_70, w159_73, w159_76, w159_77, w159_80, w159_82, w159_84, w159_85, w159_86, w159_89, w159_90, w159_91, w159_93, w159_96, w159_99, w159_101, w159_102, w159_105, w159_106, w159_107, w159_110, w159_111, w159_114, w159_115, w159_118, w159_121, w159_122, w159_125, w159_126, w159_127, w159_130, w159_133, w159_134, ks_118, m0, kt_119, in_nI (show 2 < kl 119 by rw [kl_119]; omega) (by rw [kl_119]; omega), nI_clamp (show 2 < 2 ^ 31 by omega), hc 2 (by omega), h1, ↓reduceIte, Option.toList_some, Option.toList_none, List.cons_append, List.nil_append]
    exact kk none
  | succ f ih =>
    intro g hg
    have h1 : ¬ nI (c 2) ≤ nI g := nI_ge (by omega) (by omega)
    have ih := ih (g + 1) (by omega)
    rw [haN] at ih
    rw [w159_4]
    simp only [w159_0, w159_1, w159_2, w159_3, w159_5, w159_6, w159_9, w159_10, w159_11, w159_14, w159_15, w159_16, w159_19, w159_21, w159_22, w159_23, w159_24, w159_25, w159_26, w159_29, w159_32, w159_33, w159_34, w159_35, w159_37, w159_38, w159_39, w159_42, w159_43, w159_44, w159_45, w159_48, w159_49, w159_51, w159_52, w159_56, w159_57, w159_60, w159_61, w159_62, w159_65, w159_67, w159_68, w159_70, w159_73, w159_76, w159_77, w159_80, w159_82, w159_84, w159_85, w159_86, w159_89, w159_90, w159_91, w159_93, w159_96, w159_99, w159_101, w159_102, w159_105, w159_106, w159_107, w159_110, w159_111, w159_114, w159_115, w159_118, w159_121, w159_122, w159_125, w159_126, w159_127, w159_130, w159_133, w159_134, ks_118, m0, m2, kt_119, kt_121, in_nI (show 2 < kl 119 by rw [kl_119]; omega) (by rw [kl_119]; omega), nI_clamp (show 2 < 2 ^ 31 by omega), hc 2 (by omega), h1, nI_add, in_nI (show 12 + g < kl 121 by rw [kl_121]; omega) (by rw [kl_121]; omega), nI_clamp (show 12 + g < 2 ^ 31 by omega), hn _ (show 12 + g < 22 by omega), nI_or, ↓reduceIte, Option.toList_some, Option.toList_none, List.cons_append, List.nil_append]
    exact ih
end ML
