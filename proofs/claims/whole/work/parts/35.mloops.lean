/-! the reference: reach, ring, sets turned, listen, talk -/
section ML
variable {σ : dm_G} {c n : Nat → Nat} {Q : Option Value → dm_G → Prop}
theorem l_reK {g x s rr : Nat} {R : Prop} (hM : MR σ) (hc : MC σ c) (hn : MN σ n) (hw : WC c) (hg : g < 6) (hx : x < c 0) (hs : s < 2 ^ c 0) (hk6 : n (6 + g) < 2 ^ 31)
    (kk : ∀ v5 v6 : Option Value, Wq none 156 22 [some (.ref (118 : Nat)), some (.int (nI g)), some (.int (nI (rcK c (andn (n (6 + g)) (n 19)) x s 3))), some (.int (nI rr)), some (.int (nI (x + 1))), v5, v6] [] σ Q = R) :
    ∀ (f k : Nat) (v6 : Option Value), k + f = 3 → Wq none 156 36 [some (.ref (118 : Nat)), some (.int (nI g)), some (.int (nI (rcK c (andn (n (6 + g)) (n 19)) x s k))), some (.int (nI rr)), some (.int (nI x)), some (.int (nI k)), v6] [] σ Q = R := by
  obtain ⟨m0, m1, m2, m3, m5, m6, m8, m11, m12, m14, m22, m23, m24, m25, m29, m30, m31, m32⟩ := id hM
  obtain ⟨w0, w2, w3, w4, w5, w6, w7, w8, w9⟩ := id hw
  have hp : 2 ^ c 0 ≤ 2 ^ 31 := Nat.pow_le_pow_right (by decide) (by omega)
  intro f
  induction f with
  | zero =>
    intro k v6 hk
    obtain rfl : k = 3 := by omega
    rw [w156_36]
    simp only [w156_0, w156_1, w156_2, w156_5, w156_6, w156_7, w156_8, w156_9, w156_10, w156_11, w156_12, w156_14, w156_16, w156_19, w156_20, w156_24, w156_25, w156_28, w156_29, w156_30, w156_33, w156_34, w156_38, w156_39, w156_42, w156_43, w156_45, w156_47, w156_50, w156_52, w156_53, w156_54, w156_56, w156_59, w156_62, w156_63, w156_64, w156_67, w156_69, w156_72, w156_75, w156_76, w156_78, w156_79, w156_82, w156_83, w156_84, w156_85, w156_88, w156_91, w156_94, w156_97, w156_100, w156_103, w156_104, (by decide : nI 3 ≤ nI 3), nI_add, ↓reduceIte, Option.toList_some, Option.toList_none, List.cons_append, List.nil_append]
    exact kk _ _
  | succ f ih =>
    intro k v6 hk
    have h1 : ¬ nI 3 ≤ nI k := nI_ge (by omega) (by omega)
    have hT := Tn_lt hw hx (show k < 3 by omega)
    have hT' : c (13 + (3 * x + k)) = Tn c x k := rfl
    have hS := Nat.lt_of_lt_of_le (rcK_lt (o := andn (n (6 + g)) (n 19)) hw hx hs k (by omega)) hp
    have ih := ih (k + 1) (some (.int (nI (Tn c x k)))) (by omega)
    rw [w156_36]
    by_cases h2 : (rcK c (andn (n (6 + g)) (n 19)) x s k).testBit x = true
    · by_cases h3 : (andn (n (6 + g)) (n 19)).testBit (Tn c x k) = true
      · rw [rcK, if_pos ⟨h2, h3⟩] at ih
        simp only [w156_0, w156_1, w156_2, w156_5, w156_6, w156_7, w156_8, w156_9, w156_10, w156_11, w156_12, w156_14, w156_16, w156_19, w156_20, w156_24, w156_25, w156_28, w156_29, w156_30, w156_33, w156_34, w156_38, w156_39, w156_42, w156_43, w156_45, w156_47, w156_50, w156_52, w156_53, w156_54, w156_56, w156_59, w156_62, w156_63, w156_64, w156_67, w156_69, w156_72, w156_75, w156_76, w156_78, w156_79, w156_82, w156_83, w156_84, w156_85, w156_88, w156_91, w156_94, w156_97, w156_100, w156_103, w156_104, h1, ks_118, c_turned hM hc (show 13 + (3 * x + k) < 79 by omega), hT', c_has hS (show x < 32 by omega), h2, nI_ne1, c_open hM hn hg, c_has (andn_lt hk6) (show Tn c x k < 32 by omega), h3, nI_shl 1 (show Tn c x k < 32 by omega), nI_or, nI_add, ↓reduceIte, Option.toList_some, Option.toList_none, List.cons_append, List.nil_append]
        exact ih
      · rw [rcK, if_neg (fun z => h3 z.2)] at ih
        simp only [w156_0, w156_1, w156_2, w156_5, w156_6, w156_7, w156_8, w156_9, w156_10, w156_11, w156_12, w156_14, w156_16, w156_19, w156_20, w156_24, w156_25, w156_28, w156_29, w156_30, w156_33, w156_34, w156_38, w156_39, w156_42, w156_43, w156_45, w156_47, w156_50, w156_52, w156_53, w156_54, w156_56, w156_59, w156_62, w156_63, w156_64, w156_67, w156_69, w156_72, w156_75, w156_76, w156_78, w156_79, w156_82, w156_83, w156_84, w156_85, w156_88, w156_91, w156_94, w156_97, w156_100, w156_103, w156_104, h1, ks_118, c_turned hM hc (show 13 + (3 * x + k) < 79 by omega), hT', c_has hS (show x < 32 by omega), h2, nI_ne1, c_open hM hn hg, c_has (andn_lt hk6) (show Tn c x k < 32 by omega), h3, nI_or, Nat.or_zero, nI_add, ↓reduceIte, Option.toList_some, Option.toList_none, List.cons_append, List.nil_append, Bool.false_eq_true]
        exact ih
    · rw [rcK, if_neg (fun z => h2 z.1)] at ih
      simp only [w156_0, w156_1, w156_2, w156_5, w156_6, w156_7, w156_8, w156_9, w156_10, w156_11, w156_12, w156_14, w156_16, w156_19, w156_20, w156_24, w156_25, w156_28, w156_29, w156_30, w156_33, w156_34, w156_38, w156_39, w156_42, w156_43, w156_45, w156_47, w156_50, w156_52, w156_53, w156_54, w156_56, w156_59, w156_62, w156_63, w156_64, w156_67, w156_69, w156_72, w156_75, w156_76, w156_78, w156_79, w156_82, w156_83, w156_84, w156_85, w156_88, w156_91, w156_94, w156_97, w156_100, w156_103, w156_104, h1, ks_118, c_turned hM hc (show 13 + (3 * x + k) < 79 by omega), hT', c_has hS (show x < 32 by omega), h2, nI_or, Nat.or_zero, nI_add, ↓reduceIte, Option.toList_some, Option.toList_none, List.cons_append, List.nil_append, Bool.false_eq_true]
      exact ih
theorem l_reX {g s rr : Nat} {R : Prop} (hM : MR σ) (hc : MC σ c) (hn : MN σ n) (hw : WC c) (hg : g < 6) (hs : s < 2 ^ c 0) (hk6 : n (6 + g) < 2 ^ 31)
    (kk : ∀ v4 v5 v6 : Option Value, Wq none 156 13 [some (.ref (118 : Nat)), some (.int (nI g)), some (.int (nI (rcX c (andn (n (6 + g)) (n 19)) s (c 0)))), some (.int (nI (rr + 1))), v4, v5, v6] [] σ Q = R) :
    ∀ (f x : Nat) (v5 v6 : Option Value), x + f = c 0 → Wq none 156 22 [some (.ref (118 : Nat)), some (.int (nI g)), some (.int (nI (rcX c (andn (n (6 + g)) (n 19)) s x))), some (.int (nI rr)), some (.int (nI x)), v5, v6] [] σ Q = R := by
  obtain ⟨m0, m1, m2, m3, m5, m6, m8, m11, m12, m14, m22, m23, m24, m25, m29, m30, m31, m32⟩ := id hM
  obtain ⟨w0, w2, w3, w4, w5, w6, w7, w8, w9⟩ := id hw
  intro f
  induction f with
  | zero =>
    intro x v5 v6 hx
    obtain rfl : x = c 0 := by omega
    have h1 : nI (c 0) ≤ nI (c 0) := nI_le (Nat.le_refl _) (by omega)
    rw [w156_22]
    simp only [w156_0, w156_1, w156_2, w156_5, w156_6, w156_7, w156_8, w156_9, w156_10, w156_11, w156_12, w156_14, w156_16, w156_19, w156_20, w156_24, w156_25, w156_28, w156_29, w156_30, w156_33, w156_34, w156_38, w156_39, w156_42, w156_43, w156_45, w156_47, w156_50, w156_52, w156_53, w156_54, w156_56, w156_59, w156_62, w156_63, w156_64, w156_67, w156_69, w156_72, w156_75, w156_76, w156_78, w156_79, w156_82, w156_83, w156_84, w156_85, w156_88, w156_91, w156_94, w156_97, w156_100, w156_103, w156_104, ks_118, m0, kt_119, in_nI (show 0 < kl 119 by rw [kl_119]; omega) (by rw [kl_119]; omega), nI_clamp (show 0 < 2 ^ 31 by omega), hc 0 (by omega), h1, nI_add, ↓reduceIte, Option.toList_some, Option.toList_none, List.cons_append, List.nil_append]
    exact kk _ _ _
  | succ f ih =>
    intro x v5 v6 hx
    have h1 : ¬ nI (c 0) ≤ nI x := nI_ge (by omega) (by omega)
    have hK := l_reK (Q := Q) (R := R) (rr := rr) hM hc hn hw hg (show x < c 0 by omega) (rcX_lt (o := andn (n (6 + g)) (n 19)) hw hs x (by omega)) hk6 (fun v5 v6 => ih (x + 1) v5 v6 (by omega)) 3 0
    rw [w156_22]
    simp only [w156_0, w156_1, w156_2, w156_5, w156_6, w156_7, w156_8, w156_9, w156_10, w156_11, w156_12, w156_14, w156_16, w156_19, w156_20, w156_24, w156_25, w156_28, w156_29, w156_30, w156_33, w156_34, w156_38, w156_39, w156_42, w156_43, w156_45, w156_47, w156_50, w156_52, w156_53, w156_54, w156_56, w156_59, w156_62, w156_63, w156_64, w156_67, w156_69, w156_72, w156_75, w156_76, w156_78, w156_79, w156_82, w156_83, w156_84, w156_85, w156_88, w156_91, w156_94, w156_97, w156_100, w156_103, w156_104, ks_118, m0, kt_119, in_nI (show 0 < kl 119 by rw [kl_119]; omega) (by rw [kl_119]; omega), nI_clamp (show 0 < 2 ^ 31 by omega), hc 0 (by omega), h1, ↓reduceIte, Option.toList_some, Option.toList_none, List.cons_append, List.nil_append]
    exact hK v6 (by omega)
theorem l_reR {g s : Nat} (hM : MR σ) (hc : MC σ c) (hn : MN σ n) (hw : WC c) (hg : g < 6) (hs : s < 2 ^ c 0) (hk6 : n (6 + g) < 2 ^ 31) :
    ∀ (f r : Nat) (v4 v5 v6 : Option Value), r + f = 8 → Wq none 156 13 [some (.ref (118 : Nat)), some (.int (nI g)), some (.int (nI (rcR c (andn (n (6 + g)) (n 19)) s r))), some (.int (nI r)), v4, v5, v6] [] σ Q = Q (some (.int (nI (rcR c (andn (n (6 + g)) (n 19)) s 8)))) σ := by
  obtain ⟨m0, m1, m2, m3, m5, m6, m8, m11, m12, m14, m22, m23, m24, m25, m29, m30, m31, m32⟩ := id hM
  intro f
  induction f with
  | zero =>
    intro r v4 v5 v6 hr
    obtain rfl : r = 8 := by omega
    rw [w156_13]
    simp only [w156_0, w156_1, w156_2, w156_5, w156_6, w156_7, w156_8, w156_9, w156_10, w156_11, w156_12, w156_14, w156_16, w156_19, w156_20, w156_24, w156_25, w156_28, w156_29, w156_30, w156_33, w156_34, w156_38, w156_39, w156_42, w156_43, w156_45, w156_47, w156_50, w156_52, w156_53, w156_54, w156_56, w156_59, w156_62, w156_63, w156_64, w156_67, w156_69, w156_72, w156_75, w156_76, w156_78, w156_79, w156_82, w156_83, w156_84, w156_85, w156_88, w156_91, w156_94, w156_97, w156_100, w156_103, w156_104, (by decide : nI 8 ≤ nI 8), ↓reduceIte, Option.toList_some, Option.toList_none, List.cons_append, List.nil_append]
  | succ f ih =>
    intro r v4 v5 v6 hr
    have h1 : ¬ nI 8 ≤ nI r := nI_ge (by omega) (by omega)
    have hX := l_reX (Q := Q) (rr := r) (R := Q (some (.int (nI (rcR c (andn (n (6 + g)) (n 19)) s 8)))) σ) hM hc hn hw hg (rcR_lt (o := andn (n (6 + g)) (n 19)) hw hs r) hk6 (fun v4 v5 v6 => ih (r + 1) v4 v5 v6 (by omega)) (c 0) 0
    rw [w156_13]
    simp only [w156_0, w156_1, w156_2, w156_5, w156_6, w156_7, w156_8, w156_9, w156_10, w156_11, w156_12, w156_14, w156_16, w156_19, w156_20, w156_24, w156_25, w156_28, w156_29, w156_30, w156_33, w156_34, w156_38, w156_39, w156_42, w156_43, w156_45, w156_47, w156_50, w156_52, w156_53, w156_54, w156_56, w156_59, w156_62, w156_63, w156_64, w156_67, w156_69, w156_72, w156_75, w156_76, w156_78, w156_79, w156_82, w156_83, w156_84, w156_85, w156_88, w156_91, w156_94, w156_97, w156_100, w156_103, w156_104, h1, ↓reduceIte, Option.toList_some, Option.toList_none, List.cons_append, List.nil_append]
    exact hX v5 v6 (by omega)
theorem c_mReach {g : Nat} (hM : MR σ) (hc : MC σ c) (hn : MN σ n) (hw : WC c) (hg : g < 6) (ha : n g < c 0) (hk6 : n (6 + g) < 2 ^ 31) : Cq 156 [(.ref (118 : Nat)), .int (nI g)] σ Q = Q (some (.int (nI (sN c (n g) (andn (n (6 + g)) (n 19)) (c 0))))) σ := by
  obtain ⟨m0, m1, m2, m3, m5, m6, m8, m11, m12, m14, m22, m23, m24, m25, m29, m30, m31, m32⟩ := id hM
  obtain ⟨w0, w2, w3, w4, w5, w6, w7, w8, w9⟩ := id hw
  refine Cq_of (Er_of ?_)
  show Wq none 156 0 [some (.ref (118 : Nat)), some (.int (nI g)), none, none, none, none, none] [] _ _
  rw [← reach_eq hw ha]
  have h3 := l_reR (Q := fun r' σ2 => r' = some (.int (nI (rcR c (andn (n (6 + g)) (n 19)) (1 <<< n g) 8))) ∧ σ2 = σ) hM hc hn hw hg (one_shl ha : 1 <<< n g < 2 ^ c 0) hk6 8 0 none none none (by omega)
  rw [show rcR c (andn (n (6 + g)) (n 19)) (1 <<< n g) 0 = 1 <<< n g from rfl] at h3
  have hg0 : 0 + g = g := Nat.zero_add g
  simp only [w156_0, w156_1, w156_2, w156_5, w156_6, w156_7, w156_8, w156_9, w156_10, w156_11, w156_12, w156_14, w156_16, w156_19, w156_20, w156_24, w156_25, w156_28, w156_29, w156_30, w156_33, w156_34, w156_38, w156_39, w156_42, w156_43, w156_45, w156_47, w156_50, w156_52, w156_53, w156_54, w156_56, w156_59, w156_62, w156_63, w156_64, w156_67, w156_69, w156_72, w156_75, w156_76, w156_78, w156_79, w156_82, w156_83, w156_84, w156_85, w156_88, w156_91, w156_94, w156_97, w156_100, w156_103, w156_104, ks_118, m2, kt_121, nI_add, hg0, in_nI (show g < kl 121 by rw [kl_121]; omega) (by rw [kl_121]; omega), nI_clamp (show g < 2 ^ 31 by omega), hn g (by omega), nI_shl 1 (show n g < 32 by omega), h3, and_self]
theorem l_turnedSet {s t : Nat} (hM : MR σ) (hc : MC σ c) (hw : WC c) (hs : s < 2 ^ 31) (ht : t < 3) : ∀ (f x : Nat), x + f = c 0 → Wq none 187 5 [some (.ref (118 : Nat)), some (.int (nI s)), some (.int (nI t)), some (.int (nI (endsN c s t x))), some (.int (nI x))] [] σ Q = Q (some (.int (nI (endsN c s t (c 0))))) σ := by
  obtain ⟨m0, m1, m2, m3, m5, m6, m8, m11, m12, m14, m22, m23, m24, m25, m29, m30, m31, m32⟩ := id hM
  obtain ⟨w0, w2, w3, w4, w5, w6, w7, w8, w9⟩ := id hw
  intro f
  induction f with
  | zero =>
    intro x hx
    obtain rfl : x = c 0 := by omega
    have h1 : nI (c 0) ≤ nI (c 0) := nI_le (Nat.le_refl _) (by omega)
    rw [w187_5]
    simp only [w187_0, w187_1, w187_2, w187_3, w187_7, w187_8, w187_11, w187_12, w187_13, w187_16, w187_17, w187_18, w187_20, w187_23, w187_26, w187_27, w187_28, w187_30, w187_31, w187_34, w187_35, w187_38, w187_39, w187_40, w187_41, w187_44, w187_47, w187_48, ks_118, m0, kt_119, in_nI (show 0 < kl 119 by rw [kl_119]; omega) (by rw [kl_119]; omega), nI_clamp (show 0 < 2 ^ 31 by omega), hc 0 (by omega), h1, ↓reduceIte, Option.toList_some, Option.toList_none, List.cons_append, List.nil_append]
  | succ f ih =>
    intro x hx
    have h1 : ¬ nI (c 0) ≤ nI x := nI_ge (by omega) (by omega)
    have hT := w6 (3 * x + t) (by omega)
    have ih := ih (x + 1) (by omega)
    rw [w187_5]
    by_cases hb : s.testBit x = true
    · rw [endsN, if_pos hb] at ih
      simp only [w187_0, w187_1, w187_2, w187_3, w187_7, w187_8, w187_11, w187_12, w187_13, w187_16, w187_17, w187_18, w187_20, w187_23, w187_26, w187_27, w187_28, w187_30, w187_31, w187_34, w187_35, w187_38, w187_39, w187_40, w187_41, w187_44, w187_47, w187_48, ks_118, m0, kt_119, in_nI (show 0 < kl 119 by rw [kl_119]; omega) (by rw [kl_119]; omega), nI_clamp (show 0 < 2 ^ 31 by omega), hc 0 (by omega), h1, c_has hs (show x < 32 by omega), hb, nI_ne1, c_turned hM hc (show 13 + (3 * x + t) < 79 by omega), nI_shl 1 (show c (13 + (3 * x + t)) < 32 by omega), nI_or, nI_add, ↓reduceIte, Option.toList_some, Option.toList_none, List.cons_append, List.nil_append]
      exact ih
    · rw [endsN, if_neg hb] at ih
      simp only [w187_0, w187_1, w187_2, w187_3, w187_7, w187_8, w187_11, w187_12, w187_13, w187_16, w187_17, w187_18, w187_20, w187_23, w187_26, w187_27, w187_28, w187_30, w187_31, w187_34, w187_35, w187_38, w187_39, w187_40, w187_41, w187_44, w187_47, w187_48, ks_118, m0, kt_119, in_nI (show 0 < kl 119 by rw [kl_119]; omega) (by rw [kl_119]; omega), nI_clamp (show 0 < 2 ^ 31 by omega), hc 0 (by omega), h1, c_has hs (show x < 32 by omega), hb, nI_or, Nat.or_zero, nI_add, ↓reduceIte, Option.toList_some, Option.toList_none, List.cons_append, List.nil_append, Bool.false_eq_true]
      exact ih
theorem c_turnedSet {s t : Nat} (hM : MR σ) (hc : MC σ c) (hw : WC c) (hs : s < 2 ^ 31) (ht : t < 3) : Cq 187 [(.ref (118 : Nat)), .int (nI s), .int (nI t)] σ Q = Q (some (.int (nI (endsN c s t (c 0))))) σ := by
  refine Cq_of (Er_of ?_)
  show Wq none 187 0 [some (.ref (118 : Nat)), some (.int (nI s)), some (.int (nI t)), none, none] [] _ _
  have h3 := l_turnedSet (Q := fun r' σ2 => r' = some (.int (nI (endsN c s t (c 0)))) ∧ σ2 = σ) hM hc hw hs ht (c 0) 0 (by omega)
  rw [show endsN c s t 0 = 0 from rfl] at h3
  simp only [w187_0, w187_1, w187_2, w187_3, w187_7, w187_8, w187_11, w187_12, w187_13, w187_16, w187_17, w187_18, w187_20, w187_23, w187_26, w187_27, w187_28, w187_30, w187_31, w187_34, w187_35, w187_38, w187_39, w187_40, w187_41, w187_44, w187_47, w187_48, h3, and_self]
/-- the heads of the guides below g of a set -/
def hdN (n : Nat → Nat) (s : Nat) : Nat → Nat := fun g => match g with
  | 0 => 0
  | g + 1 => if s.testBit g = true then hdN n s g ||| n (12 + g) else hdN n s g
def haN (n : Nat → Nat) : Nat → Nat := fun g => match g with
  | 0 => 0
  | g + 1 => haN n g ||| n (12 + g)
theorem l_tkA (hM : MR σ) (hc : MC σ c) (hn : MN σ n) (hw : WC c) {R : Prop} (kk : ∀ v : Option Value, Wq none 160 36 [some (.ref (118 : Nat)), some (.int (nI (haN n (c 2)))), some (.int (-1)), some (.int (nI 0)), none, none] [] σ Q = R) : ∀ (f g : Nat), g + f = c 2 → Wq none 160 4 [some (.ref (118 : Nat)), some (.int (nI (haN n g))), some (.int (nI g)), none, none, none] [] σ Q = R := by
  obtain ⟨m0, m1, m2, m3, m5, m6, m8, m11, m12, m14, m22, m23, m24, m25, m29, m30, m31, m32⟩ := id hM
  obtain ⟨w0, w2, w3, w4, w5, w6, w7, w8, w9⟩ := id hw
  intro f
  induction f with
  | zero =>
    intro g hg
    obtain rfl : g = c 2 := by omega
    have h1 : nI (c 2) ≤ nI (c 2) := nI_le (Nat.le_refl _) (by omega)
    rw [w160_4]
    simp only [w160_0, w160_1, w160_2, w160_3, w160_5, w160_6, w160_9, w160_10, w160_11, w160_14, w160_15, w160_16, w160_19, w160_21, w160_22, w160_23, w160_24, w160_25, w160_26, w160_29, w160_32, w160_33, w160_34, w160_35, w160_37, w160_38, w160_39, w160_42, w160_43, w160_44, w160_45, w160_48, w160_49, w160_51, w160_52, w160_56, w160_57, w160_60, w160_61, w160_62, w160_65, w160_67, w160_68, w160_70, w160_73, w160_76, w160_77, w160_80, w160_82, w160_84, w160_85, w160_86, w160_89, w160_90, w160_91, w160_93, w160_96, w160_99, w160_101, w160_102, w160_105, w160_106, w160_107, w160_110, w160_111, w160_114, w160_115, w160_118, w160_121, w160_122, w160_125, w160_126, w160_127, w160_130, w160_133, w160_134, ks_118, m0, kt_119, in_nI (show 2 < kl 119 by rw [kl_119]; omega) (by rw [kl_119]; omega), nI_clamp (show 2 < 2 ^ 31 by omega), hc 2 (by omega), h1, ↓reduceIte, Option.toList_some, Option.toList_none, List.cons_append, List.nil_append]
    exact kk none
  | succ f ih =>
    intro g hg
    have h1 : ¬ nI (c 2) ≤ nI g := nI_ge (by omega) (by omega)
    have ih := ih (g + 1) (by omega)
    rw [haN] at ih
    rw [w160_4]
    simp only [w160_0, w160_1, w160_2, w160_3, w160_5, w160_6, w160_9, w160_10, w160_11, w160_14, w160_15, w160_16, w160_19, w160_21, w160_22, w160_23, w160_24, w160_25, w160_26, w160_29, w160_32, w160_33, w160_34, w160_35, w160_37, w160_38, w160_39, w160_42, w160_43, w160_44, w160_45, w160_48, w160_49, w160_51, w160_52, w160_56, w160_57, w160_60, w160_61, w160_62, w160_65, w160_67, w160_68, w160_70, w160_73, w160_76, w160_77, w160_80, w160_82, w160_84, w160_85, w160_86, w160_89, w160_90, w160_91, w160_93, w160_96, w160_99, w160_101, w160_102, w160_105, w160_106, w160_107, w160_110, w160_111, w160_114, w160_115, w160_118, w160_121, w160_122, w160_125, w160_126, w160_127, w160_130, w160_133, w160_134, ks_118, m0, m2, kt_119, kt_121, in_nI (show 2 < kl 119 by rw [kl_119]; omega) (by rw [kl_119]; omega), nI_clamp (show 2 < 2 ^ 31 by omega), hc 2 (by omega), h1, nI_add, in_nI (show 12 + g < kl 121 by rw [kl_121]; omega) (by rw [kl_121]; omega), nI_clamp (show 12 + g < 2 ^ 31 by omega), hn _ (show 12 + g < 22 by omega), nI_or, ↓reduceIte, Option.toList_some, Option.toList_none, List.cons_append, List.nil_append]
    exact ih
end ML
