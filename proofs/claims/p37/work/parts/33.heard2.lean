/-! what is heard: the class, going on -/
def adN (c hs ht : Nat → Nat) (k : Nat) : Nat → Nat := fun x => match x with
  | 0 => stN c hs ht k (c 0)
  | x + 1 => if c (5 + psN c ht x (k + 1)) = hs (k + 1) then adN c hs ht k x else andn (adN c hs ht k x) (1 <<< x)
theorem adN_tb {c hs ht : Nat → Nat} {k y : Nat} : ∀ x, (adN c hs ht k x).testBit y = (decide (y < c 0) && okN c hs ht y k && (decide (x ≤ y) || decide (c (5 + psN c ht y (k + 1)) = hs (k + 1)))) := by
  intro x
  induction x with
  | zero => rw [adN, stN_tb]; simp
  | succ x ih =>
    rw [adN]
    by_cases hyx : y = x
    · subst hyx
      have h1 : decide (y ≤ y) = true := by simp
      have h2 : decide (y + 1 ≤ y) = false := decide_eq_false (by omega)
      by_cases h : c (5 + psN c ht y (k + 1)) = hs (k + 1)
      · rw [if_pos h, ih]; simp [h]
      · rw [if_neg h, andn_tb, tb_shl1, h2]; simp [h]
    · have h1 : decide (x + 1 ≤ y) = decide (x ≤ y) := by congr 1; apply propext; omega
      have h2 : decide (x = y) = false := decide_eq_false (fun z => hyx z.symm)
      rw [h1]
      split
      · exact ih
      · rw [andn_tb, tb_shl1, h2, ih]; simp
theorem adN_end {c hs ht : Nat → Nat} {k : Nat} : adN c hs ht k (c 0) = stN c hs ht (k + 1) (c 0) := by
  apply Nat.eq_of_testBit_eq
  intro y
  rw [adN_tb, stN_tb, okN]
  by_cases h : y < c 0
  · have : decide (c 0 ≤ y) = false := decide_eq_false (by omega)
    simp [h, this]
  · simp [h]
theorem adN_lt {c hs ht : Nat → Nat} {k : Nat} : ∀ x, adN c hs ht k x < 2 ^ c 0 := by
  intro x
  induction x with
  | zero => exact stN_lt _
  | succ x ih =>
    rw [adN]
    split
    · exact ih
    · exact andn_lt ih
def he8 (s : Nat) (f : Nat → Nat) : Nat → Nat := fun x => match x with
  | 0 => 0
  | x + 1 => if s.testBit x = true then he8 s f x ||| 1 <<< f x else he8 s f x
theorem he8_eq {c hs ht : Nat → Nat} {k : Nat} : ∀ x, he8 (stN c hs ht k (c 0)) (fun x => psN c ht x k) x = heN c hs ht k (min x (c 0)) := by
  intro x
  induction x with
  | zero => simp [he8, heN]
  | succ x ih =>
    rw [he8, stN_tb]
    by_cases h : x < c 0
    · have h1 : min (x + 1) (c 0) = x + 1 := by omega
      have h2 : min x (c 0) = x := by omega
      rw [h1, heN, ih, h2]
      simp [h]
    · have h1 : min (x + 1) (c 0) = min x (c 0) := by omega
      rw [h1, ← ih]
      simp [h]
theorem he8_0 (f : Nat → Nat) : ∀ x, he8 0 f x = 0 := by
  intro x
  induction x with
  | zero => rfl
  | succ x ih => rw [he8, ih]; simp
section HJ
variable {σ : dm_G} {P : Nat} {c hs ht : Nat → Nat} {Q : Option Value → dm_G → Prop}
theorem l_hear {k : Nat} {v : Option Value} (hC : CC σ P c) (hP : P ≤ 14) (hw : WC c) (hht : ∀ k, ht k < 3) (hhs : hs (k + 1) < 6) (h2 : σ 105 2 = (.ref (106 : Nat))) (hpl : ∀ x, x < c 0 → gi σ 106 x = nI (psN c ht x k)) : ∀ (n x : Nat) (v : Option Value), x + n = c 0 → Wq none 26 13 [some (.ref (105 : Nat)), some (.ref P), some (.int (nI (ht (k + 1)))), some (.int (nI (hs (k + 1)))), some (.int (nI x)), v] [] (hst σ (nI (k + 1)) (nI (adN c hs ht k x)) x (fun x => nI (psN c ht x (k + 1)))) Q = Q none (hst σ (nI (k + 1)) (nI (adN c hs ht k (c 0))) (c 0) (fun x => nI (psN c ht x (k + 1)))) := by
  obtain ⟨w0, w2, w3, w4, w5, w6, w7, w8, w9⟩ := id hw
  intro n
  induction n with
  | zero =>
    intro x v hx
    obtain rfl : x = c 0 := by omega
    obtain ⟨⟨kP, -⟩, -, ⟨i0, -⟩, -⟩ := id (CC_hst (t := nI (k + 1)) (s := nI (adN c hs ht k (c 0))) (m := c 0) (f := fun x => nI (psN c ht x (k + 1))) hC hP)
    have h1 : nI (c 0) ≤ nI (c 0) := nI_le (Nat.le_refl _) (by omega)
    rw [w26_13]
    simp only [w26_0, w26_1, w26_1i, w26_2, w26_5, w26_6, w26_7, w26_10, w26_11, w26_15, w26_16, w26_19, w26_22, w26_23, w26_24, w26_27, w26_29, w26_32, w26_33, w26_36, w26_38, w26_39, w26_42, w26_44, w26_46, w26_49, w26_50, w26_53, w26_55, w26_58, w26_59, w26_62, w26_63, w26_63i, w26_64, w26_67, w26_68, w26_70, w26_71, w26_72, w26_73, w26_74, w26_77, w26_80, w26_83, kP, i0, h1, ↓reduceIte, Option.toList_some, Option.toList_none, List.cons_append, List.nil_append]
  | succ n ih =>
    intro x v hx
    have h1 : ¬ nI (c 0) ≤ nI x := nI_ge (by omega) (by omega)
    have hC1 := CC_hst (t := nI (k + 1)) (s := nI (adN c hs ht k x)) (m := x) (f := fun x => nI (psN c ht x (k + 1))) hC hP
    have hC2 := CC_hst (t := nI (k + 1)) (s := nI (adN c hs ht k x)) (m := x + 1) (f := fun x => nI (psN c ht x (k + 1))) hC hP
    obtain ⟨⟨kP, ⟨t1, l1⟩, -⟩, -, ⟨i0, -⟩, -⟩ := id hC1
    obtain ⟨-, ⟨r1', -⟩, -, f1', -⟩ := id hC2
    have hx6 : x < kl 106 := by rw [kl_106]; omega
    have hps := psN_lt hw hht (show x < c 0 by omega) k
    have hps1 := psN_lt hw hht (show x < c 0 by omega) (k + 1)
    have hx1 : psN c ht x (k + 1) < kl (P + 1) := by rw [l1]; omega
    have hg : gi (hst σ (nI (k + 1)) (nI (adN c hs ht k x)) x (fun x => nI (psN c ht x (k + 1)))) 106 x = nI (psN c ht x k) := by
      rw [hst_gi, if_neg (Nat.lt_irrefl _)]
      exact hpl x (by omega)
    have hm := hst_m (σ := σ) (t := nI (k + 1)) (s := nI (adN c hs ht k x)) (m := x) (f := fun x => nI (psN c ht x (k + 1)))
    have hend : c (13 + (3 * psN c ht x k + ht (k + 1))) = psN c ht x (k + 1) := rfl
    have ih := ih (x + 1) (some (.int (nI (psN c ht x (k + 1))))) (by omega)
    have h5 := w5 _ hps1
    rw [w26_13]
    by_cases he : c (5 + psN c ht x (k + 1)) = hs (k + 1)
    · rw [adN, if_pos he] at ih
      simp only [w26_0, w26_1, w26_1i, w26_2, w26_5, w26_6, w26_7, w26_10, w26_11, w26_15, w26_16, w26_19, w26_22, w26_23, w26_24, w26_27, w26_29, w26_32, w26_33, w26_36, w26_38, w26_39, w26_42, w26_44, w26_46, w26_49, w26_50, w26_53, w26_55, w26_58, w26_59, w26_62, w26_63, w26_63i, w26_64, w26_67, w26_68, w26_70, w26_71, w26_72, w26_73, w26_74, w26_77, w26_80, w26_83, kP, i0, h1, ks_105, hst_2, h2, c_at kt_106 hx6 (by rw [kl_106]; omega), hg, c_endOf hC1 hw hps (hht (k + 1)), hend, c_put kt_106 hx6 (by rw [kl_106]; omega), hm, r1', c_at t1 hx1 (by omega), f1' _ hps1, he, nI_add, ↓reduceIte, Option.toList_some, Option.toList_none, List.cons_append, List.nil_append]
      exact ih
    · rw [adN, if_neg he] at ih
      have he' : ¬ nI (c (5 + psN c ht x (k + 1))) = nI (hs (k + 1)) := fun z => he (nI_inj (by omega) (by omega) z)
      simp only [w26_0, w26_1, w26_1i, w26_2, w26_5, w26_6, w26_7, w26_10, w26_11, w26_15, w26_16, w26_19, w26_22, w26_23, w26_24, w26_27, w26_29, w26_32, w26_33, w26_36, w26_38, w26_39, w26_42, w26_44, w26_46, w26_49, w26_50, w26_53, w26_55, w26_58, w26_59, w26_62, w26_63, w26_63i, w26_64, w26_67, w26_68, w26_70, w26_71, w26_72, w26_73, w26_74, w26_77, w26_80, w26_83, kP, i0, h1, ks_105, hst_2, h2, c_at kt_106 hx6 (by rw [kl_106]; omega), hg, c_endOf hC1 hw hps (hht (k + 1)), hend, c_put kt_106 hx6 (by rw [kl_106]; omega), hm, r1', c_at t1 hx1 (by omega), f1' _ hps1, he', hst_1, nI_shl 1 (show x < 32 by omega), nI_andn, hst_s, nI_add, ↓reduceIte, Option.toList_some, Option.toList_none, List.cons_append, List.nil_append]
      exact ih
theorem c_hearAdd {k : Nat} (hC : CC σ P c) (hP : P ≤ 14) (hw : WC c) (hht : ∀ k, ht k < 3) (hhs : hs (k + 1) < 6) (h2 : σ 105 2 = (.ref (106 : Nat))) (h0 : σ 105 0 = .int (nI k)) (h1 : σ 105 1 = .int (nI (stN c hs ht k (c 0)))) (hpl : ∀ x, x < c 0 → gi σ 106 x = nI (psN c ht x k)) : Cq 26 [(.ref (105 : Nat)), .ref P, .int (nI (ht (k + 1))), .int (nI (hs (k + 1)))] σ Q = Q none (hst σ (nI (k + 1)) (nI (stN c hs ht (k + 1) (c 0))) (c 0) (fun x => nI (psN c ht x (k + 1)))) := by
  refine Cq_of (Er_of ?_)
  show Wq none 26 0 [some (.ref (105 : Nat)), some (.ref P), some (.int (nI (ht (k + 1)))), some (.int (nI (hs (k + 1)))), none, none] [] _ _
  have h3 := l_hear (v := none) (Q := fun r' σ2 => r' = none ∧ σ2 = hst σ (nI (k + 1)) (nI (stN c hs ht (k + 1) (c 0))) (c 0) (fun x => nI (psN c ht x (k + 1)))) hC hP hw hht hhs h2 hpl (c 0) 0 none (by omega)
  rw [adN_end] at h3
  have h4 : hst σ (nI (k + 1)) (nI (adN c hs ht k 0)) 0 (fun x => nI (psN c ht x (k + 1))) = dm_up σ 105 0 (.int (nI (k + 1))) := by
    unfold hst
    rw [seta_0]
    funext a b
    simp only [dm_up]
    by_cases h : a = 105 ∧ b = 1
    · obtain ⟨rfl, rfl⟩ := h
      simp only [and_self, if_true]
      rw [h1]
      rfl
    · rw [if_neg h]
  rw [h4] at h3
  simp only [w26_0, w26_1, w26_1i, w26_2, w26_5, w26_6, w26_7, w26_10, w26_11, w26_15, w26_16, w26_19, w26_22, w26_23, w26_24, w26_27, w26_29, w26_32, w26_33, w26_36, w26_38, w26_39, w26_42, w26_44, w26_46, w26_49, w26_50, w26_53, w26_55, w26_58, w26_59, w26_62, w26_63, w26_63i, w26_64, w26_67, w26_68, w26_70, w26_71, w26_72, w26_73, w26_74, w26_77, w26_80, w26_83, ks_105, h0, nI_add, h3, and_self]
theorem l_cHere {s : Nat} {f : Nat → Nat} (h2 : σ 105 2 = (.ref (106 : Nat))) (h1 : σ 105 1 = .int (nI s)) (hs : s < 2 ^ 31) (hf : ∀ x, x < 8 → s.testBit x = true → f x < 32 ∧ gi σ 106 x = nI (f x)) : ∀ (n x : Nat), x + n = 8 → Wq none 27 4 [some (.ref (105 : Nat)), some (.int (nI (he8 s f x))), some (.int (nI x))] [] σ Q = Q (some (.int (nI (he8 s f 8)))) σ := by
  intro n
  induction n with
  | zero =>
    intro x hx
    obtain rfl : x = 8 := by omega
    rw [w27_4]
    simp only [w27_0, w27_1, w27_2, w27_3, w27_5, w27_7, w27_10, w27_11, w27_14, w27_15, w27_16, w27_17, w27_18, w27_21, w27_22, w27_23, w27_24, w27_27, w27_28, w27_31, w27_32, w27_33, w27_34, w27_37, w27_40, w27_41, (by decide : nI 8 ≤ nI 8), ↓reduceIte, Option.toList_some, Option.toList_none, List.cons_append, List.nil_append]
  | succ n ih =>
    intro x hx
    have h3 : ¬ nI 8 ≤ nI x := nI_ge (by omega) (by omega)
    have hx6 : x < kl 106 := by rw [kl_106]; omega
    have ih := ih (x + 1) (by omega)
    rw [w27_4]
    by_cases hb : s.testBit x = true
    · obtain ⟨g1, g2⟩ := hf x (by omega) hb
      rw [he8, if_pos hb] at ih
      simp only [w27_0, w27_1, w27_2, w27_3, w27_5, w27_7, w27_10, w27_11, w27_14, w27_15, w27_16, w27_17, w27_18, w27_21, w27_22, w27_23, w27_24, w27_27, w27_28, w27_31, w27_32, w27_33, w27_34, w27_37, w27_40, w27_41, h3, ks_105, h1, h2, nI_bit hs (show x < 32 by omega), hb, nI_ne1, c_at kt_106 hx6 (by rw [kl_106]; omega), g2, nI_shl 1 g1, nI_or, nI_add, ↓reduceIte, Option.toList_some, Option.toList_none, List.cons_append, List.nil_append]
      exact ih
    · rw [he8, if_neg hb] at ih
      simp only [w27_0, w27_1, w27_2, w27_3, w27_5, w27_7, w27_10, w27_11, w27_14, w27_15, w27_16, w27_17, w27_18, w27_21, w27_22, w27_23, w27_24, w27_27, w27_28, w27_31, w27_32, w27_33, w27_34, w27_37, w27_40, w27_41, h3, ks_105, h1, nI_bit hs (show x < 32 by omega), hb, nI_add, ↓reduceIte, Option.toList_some, Option.toList_none, List.cons_append, List.nil_append]
      exact ih
theorem c_cHere {s : Nat} {f : Nat → Nat} (h2 : σ 105 2 = (.ref (106 : Nat))) (h1 : σ 105 1 = .int (nI s)) (hs : s < 2 ^ 31) (hf : ∀ x, x < 8 → s.testBit x = true → f x < 32 ∧ gi σ 106 x = nI (f x)) : Cq 27 [(.ref (105 : Nat))] σ Q = Q (some (.int (nI (he8 s f 8)))) σ := by
  refine Cq_of (Er_of ?_)
  show Wq none 27 0 [some (.ref (105 : Nat)), none, none] [] _ _
  have h3 := l_cHere (Q := fun r' σ2 => r' = some (.int (nI (he8 s f 8))) ∧ σ2 = σ) h2 h1 hs hf 8 0 (by omega)
  rw [show he8 s f 0 = 0 from rfl] at h3
  simp only [w27_0, w27_1, w27_2, w27_3, w27_5, w27_7, w27_10, w27_11, w27_14, w27_15, w27_16, w27_17, w27_18, w27_21, w27_22, w27_23, w27_24, w27_27, w27_28, w27_31, w27_32, w27_33, w27_34, w27_37, w27_40, w27_41, h3, and_self]
/-- of the crossings below x of the set: how many lead by the turn to the sound -/
def cnS (c : Nat → Nat) (s t sd : Nat) : Nat → Nat := fun x => match x with
  | 0 => 0
  | x + 1 => if s.testBit x = true ∧ c (5 + Tn c x t) = sd then cnS c s t sd x + 1 else cnS c s t sd x
def gpN (c : Nat → Nat) (s t : Nat) : Nat → Nat := fun sd => match sd with
  | 0 => 0
  | sd + 1 => max (gpN c s t sd) (cnS c s t sd (c 0))
theorem cnS_le {c : Nat → Nat} {s t sd : Nat} : ∀ x, cnS c s t sd x ≤ x := by
  intro x
  induction x with
  | zero => exact Nat.le_refl _
  | succ x ih => rw [cnS]; split <;> omega
theorem gpN_le {c : Nat → Nat} {s t : Nat} : ∀ sd, gpN c s t sd ≤ c 0 := by
  intro sd
  induction sd with
  | zero => exact Nat.zero_le _
  | succ sd ih => rw [gpN]; exact Nat.max_le.mpr ⟨ih, cnS_le _⟩
theorem l_gpX {s t sd g : Nat} (hC : CC σ P c) (hw : WC c) (hs : s < 2 ^ 31) (ht : t < 3) (hsd : sd < 6) : ∀ (n x : Nat), x + n = c 0 → Wq none 29 18 [some (.ref P), some (.int (nI s)), some (.int (nI t)), some (.int (nI g)), some (.int (nI sd)), some (.int (nI (cnS c s t sd x))), some (.int (nI x))] [] σ Q = Wq none 29 5 [some (.ref P), some (.int (nI s)), some (.int (nI t)), some (.int (if nI g < nI (cnS c s t sd (c 0)) then nI (cnS c s t sd (c 0)) else nI g)), some (.int (nI (sd + 1))), some (.int (nI (cnS c s t sd (c 0)))), some (.int (nI (c 0)))] [] σ Q := by
  obtain ⟨w0, w2, w3, w4, w5, w6, w7, w8, w9⟩ := id hw
  obtain ⟨⟨kP, ⟨t1, l1⟩, -⟩, ⟨r1, -⟩, ⟨i0, -⟩, f1, -⟩ := id hC
  intro n
  induction n with
  | zero =>
    intro x hx
    obtain rfl : x = c 0 := by omega
    have h1 : nI (c 0) ≤ nI (c 0) := nI_le (Nat.le_refl _) (by omega)
    rw [w29_18]
    simp only [w29_0, w29_1, w29_2, w29_3, w29_7, w29_9, w29_12, w29_13, w29_15, w29_16, w29_20, w29_21, w29_24, w29_27, w29_28, w29_30, w29_31, w29_32, w29_33, w29_36, w29_37, w29_40, w29_41, w29_43, w29_44, w29_47, w29_50, w29_52, w29_55, w29_58, w29_61, w29_64, w29_65, w29_67, w29_70, w29_71, w29_74, w29_77, w29_78, kP, i0, h1, nI_add, ↓reduceIte, Option.toList_some, Option.toList_none, List.cons_append, List.nil_append]
  | succ n ih =>
    intro x hx
    have h1 : ¬ nI (c 0) ≤ nI x := nI_ge (by omega) (by omega)
    have ih := ih (x + 1) (by omega)
    have hT := Tn_lt hw (show x < c 0 by omega) ht
    have hT' : c (13 + (3 * x + t)) = Tn c x t := rfl
    have hx1 : Tn c x t < kl (P + 1) := by rw [l1]; omega
    have h5 := w5 _ hT
    rw [w29_18]
    by_cases hb : s.testBit x = true
    · by_cases he : c (5 + Tn c x t) = sd
      · rw [cnS, if_pos ⟨hb, he⟩] at ih
        simp only [w29_0, w29_1, w29_2, w29_3, w29_7, w29_9, w29_12, w29_13, w29_15, w29_16, w29_20, w29_21, w29_24, w29_27, w29_28, w29_30, w29_31, w29_32, w29_33, w29_36, w29_37, w29_40, w29_41, w29_43, w29_44, w29_47, w29_50, w29_52, w29_55, w29_58, w29_61, w29_64, w29_65, w29_67, w29_70, w29_71, w29_74, w29_77, w29_78, kP, i0, h1, nI_bit hs (show x < 32 by omega), hb, nI_ne1, r1, c_endOf hC hw (show x < c 0 by omega) ht, hT', c_at t1 hx1 (by omega), f1 _ hT, he, nI_add, ↓reduceIte, Option.toList_some, Option.toList_none, List.cons_append, List.nil_append]
        exact ih
      · rw [cnS, if_neg (fun z => he z.2)] at ih
        have he' : ¬ nI (c (5 + Tn c x t)) = nI sd := fun z => he (nI_inj (by omega) (by omega) z)
        simp only [w29_0, w29_1, w29_2, w29_3, w29_7, w29_9, w29_12, w29_13, w29_15, w29_16, w29_20, w29_21, w29_24, w29_27, w29_28, w29_30, w29_31, w29_32, w29_33, w29_36, w29_37, w29_40, w29_41, w29_43, w29_44, w29_47, w29_50, w29_52, w29_55, w29_58, w29_61, w29_64, w29_65, w29_67, w29_70, w29_71, w29_74, w29_77, w29_78, kP, i0, h1, nI_bit hs (show x < 32 by omega), hb, nI_ne1, r1, c_endOf hC hw (show x < c 0 by omega) ht, hT', c_at t1 hx1 (by omega), f1 _ hT, he', nI_add, ↓reduceIte, Option.toList_some, Option.toList_none, List.cons_append, List.nil_append]
        exact ih
    · rw [cnS, if_neg (fun z => hb z.1)] at ih
      simp only [w29_0, w29_1, w29_2, w29_3, w29_7, w29_9, w29_12, w29_13, w29_15, w29_16, w29_20, w29_21, w29_24, w29_27, w29_28, w29_30, w29_31, w29_32, w29_33, w29_36, w29_37, w29_40, w29_41, w29_43, w29_44, w29_47, w29_50, w29_52, w29_55, w29_58, w29_61, w29_64, w29_65, w29_67, w29_70, w29_71, w29_74, w29_77, w29_78, kP, i0, h1, nI_bit hs (show x < 32 by omega), hb, nI_add, ↓reduceIte, Option.toList_some, Option.toList_none, List.cons_append, List.nil_append]
      exact ih
theorem nI_mx {a b : Nat} (ha : a < 2 ^ 31) (hb : b < 2 ^ 31) : (if nI a < nI b then nI b else nI a) = nI (max a b) := by
  by_cases h : a < b
  · rw [if_pos (nI_lt h hb), Nat.max_eq_right (Nat.le_of_lt h)]
  · rw [if_neg (nI_nlt (by omega) ha), Nat.max_eq_left (by omega)]
theorem l_gpS {s t : Nat} (hC : CC σ P c) (hw : WC c) (hs : s < 2 ^ 31) (ht : t < 3) : ∀ (n sd : Nat) (v5 v6 : Option Value), sd + n = 6 → Wq none 29 5 [some (.ref P), some (.int (nI s)), some (.int (nI t)), some (.int (nI (gpN c s t sd))), some (.int (nI sd)), v5, v6] [] σ Q = Q (some (.int (nI (gpN c s t 6)))) σ := by
  obtain ⟨w0, w2, w3, w4, w5, w6, w7, w8, w9⟩ := id hw
  intro n
  induction n with
  | zero =>
    intro sd v5 v6 hx
    obtain rfl : sd = 6 := by omega
    rw [w29_5]
    simp only [w29_0, w29_1, w29_2, w29_3, w29_7, w29_9, w29_12, w29_13, w29_15, w29_16, w29_20, w29_21, w29_24, w29_27, w29_28, w29_30, w29_31, w29_32, w29_33, w29_36, w29_37, w29_40, w29_41, w29_43, w29_44, w29_47, w29_50, w29_52, w29_55, w29_58, w29_61, w29_64, w29_65, w29_67, w29_70, w29_71, w29_74, w29_77, w29_78, (by decide : nI 6 ≤ nI 6), ↓reduceIte, Option.toList_some, Option.toList_none, List.cons_append, List.nil_append]
  | succ n ih =>
    intro sd v5 v6 hx
    have h1 : ¬ nI 6 ≤ nI sd := nI_ge (by omega) (by omega)
    have h3 := l_gpX (Q := Q) (g := gpN c s t sd) hC hw hs ht (show sd < 6 by omega) (c 0) 0 (by omega)
    rw [show cnS c s t sd 0 = 0 from rfl] at h3
    have g1 := gpN_le (c := c) (s := s) (t := t) sd
    have g2 := cnS_le (c := c) (s := s) (t := t) (sd := sd) (c 0)
    rw [w29_5]
    simp only [w29_0, w29_1, w29_2, w29_3, w29_7, w29_9, w29_12, w29_13, w29_15, w29_16, w29_20, w29_21, w29_24, w29_27, w29_28, w29_30, w29_31, w29_32, w29_33, w29_36, w29_37, w29_40, w29_41, w29_43, w29_44, w29_47, w29_50, w29_52, w29_55, w29_58, w29_61, w29_64, w29_65, w29_67, w29_70, w29_71, w29_74, w29_77, w29_78, h1, h3, nI_mx (show gpN c s t sd < 2 ^ 31 by omega) (show cnS c s t sd (c 0) < 2 ^ 31 by omega), ↓reduceIte, Option.toList_some, Option.toList_none, List.cons_append, List.nil_append]
    exact ih (sd + 1) _ _ (by omega)
theorem c_gp {s t : Nat} (hC : CC σ P c) (hw : WC c) (hs : s < 2 ^ 31) (ht : t < 3) : Cq 29 [.ref P, .int (nI s), .int (nI t)] σ Q = Q (some (.int (nI (gpN c s t 6)))) σ := by
  refine Cq_of (Er_of ?_)
  show Wq none 29 0 [some (.ref P), some (.int (nI s)), some (.int (nI t)), none, none, none, none] [] _ _
  have h3 := l_gpS (Q := fun r' σ2 => r' = some (.int (nI (gpN c s t 6))) ∧ σ2 = σ) hC hw hs ht 6 0 none none (by omega)
  rw [show gpN c s t 0 = 0 from rfl] at h3
  simp only [w29_0, w29_1, w29_2, w29_3, w29_7, w29_9, w29_12, w29_13, w29_15, w29_16, w29_20, w29_21, w29_24, w29_27, w29_28, w29_30, w29_31, w29_32, w29_33, w29_36, w29_37, w29_40, w29_41, w29_43, w29_44, w29_47, w29_50, w29_52, w29_55, w29_58, w29_61, w29_64, w29_65, w29_67, w29_70, w29_71, w29_74, w29_77, w29_78, h3, and_self]
/-- the best turn: the turns below t looked at -/
def ltN (c : Nat → Nat) (s : Nat) : Nat → Option Nat × Nat := fun t => match t with
  | 0 => (none, pcN s)
  | t + 1 => if gpN c s t 6 < (ltN c s t).2 then (some t, gpN c s t 6) else ltN c s t
theorem ltN_le {c : Nat → Nat} {s : Nat} (hs : s < 256) : ∀ t, (ltN c s t).2 ≤ 8 := by
  intro t
  induction t with
  | zero => exact (by decide +kernel : ∀ s, s < 256 → pcN s ≤ 8) s hs
  | succ t ih =>
    rw [ltN]
    split
    · dsimp only; omega
    · exact ih
theorem l_bestTurn {s : Nat} (hC : CC σ P c) (hw : WC c) (hs : s < 256) : ∀ (n t : Nat) (v : Option Value), t + n = 3 → Wq none 28 16 [some (.ref (105 : Nat)), some (.ref P), some (.int (nI s)), some (.int (oI (ltN c s t).1)), some (.int (nI (ltN c s t).2)), some (.int (nI t)), v] [] σ Q = Q (some (.int (oI (ltN c s 3).1))) σ := by
  obtain ⟨w0, w2, w3, w4, w5, w6, w7, w8, w9⟩ := id hw
  intro n
  induction n with
  | zero =>
    intro t v hx
    obtain rfl : t = 3 := by omega
    rw [w28_16]
    simp only [w28_0, w28_1, w28_4, w28_5, w28_6, w28_7, w28_8, w28_11, w28_13, w28_14, w28_18, w28_19, w28_22, w28_23, w28_24, w28_26, w28_29, w28_31, w28_33, w28_35, w28_38, w28_40, w28_42, w28_44, w28_45, w28_48, w28_51, w28_52, (by decide : nI 3 ≤ nI 3), ↓reduceIte, Option.toList_some, Option.toList_none, List.cons_append, List.nil_append]
  | succ n ih =>
    intro t v hx
    have h1 : ¬ nI 3 ≤ nI t := nI_ge (by omega) (by omega)
    have g1 := gpN_le (c := c) (s := s) (t := t) 6
    have g2 := ltN_le (c := c) hs t
    have ih := ih (t + 1) (some (.int (nI (gpN c s t 6)))) (by omega)
    rw [w28_16]
    by_cases h : gpN c s t 6 < (ltN c s t).2
    · rw [ltN, if_pos h] at ih
      have h2 : ¬ nI (ltN c s t).2 ≤ nI (gpN c s t 6) := nI_ge h (by omega)
      simp only [w28_0, w28_1, w28_4, w28_5, w28_6, w28_7, w28_8, w28_11, w28_13, w28_14, w28_18, w28_19, w28_22, w28_23, w28_24, w28_26, w28_29, w28_31, w28_33, w28_35, w28_38, w28_40, w28_42, w28_44, w28_45, w28_48, w28_51, w28_52, h1, c_gp hC hw (show s < 2 ^ 31 by omega) (show t < 3 by omega), h2, nI_add, ↓reduceIte, Option.toList_some, Option.toList_none, List.cons_append, List.nil_append]
      exact ih
    · rw [ltN, if_neg h] at ih
      have h2 : nI (ltN c s t).2 ≤ nI (gpN c s t 6) := nI_le (by omega) (by omega)
      simp only [w28_0, w28_1, w28_4, w28_5, w28_6, w28_7, w28_8, w28_11, w28_13, w28_14, w28_18, w28_19, w28_22, w28_23, w28_24, w28_26, w28_29, w28_31, w28_33, w28_35, w28_38, w28_40, w28_42, w28_44, w28_45, w28_48, w28_51, w28_52, h1, c_gp hC hw (show s < 2 ^ 31 by omega) (show t < 3 by omega), h2, nI_add, ↓reduceIte, Option.toList_some, Option.toList_none, List.cons_append, List.nil_append]
      exact ih
theorem c_bestTurn {s : Nat} (hC : CC σ P c) (hw : WC c) (hs : s < 256) (hh : ∀ Q : Option Value → dm_G → Prop, Cq 27 [(.ref (105 : Nat))] σ Q = Q (some (.int (nI s))) σ) : Cq 28 [(.ref (105 : Nat)), .ref P] σ Q = Q (some (.int (oI (ltN c s 3).1))) σ := by
  refine Cq_of (Er_of ?_)
  show Wq none 28 0 [some (.ref (105 : Nat)), some (.ref P), none, none, none, none, none] [] _ _
  have h3 := l_bestTurn (Q := fun r' σ2 => r' = some (.int (oI (ltN c s 3).1)) ∧ σ2 = σ) hC hw hs 3 0 none (by omega)
  rw [show (ltN c s 0).2 = pcN s from rfl, show (ltN c s 0).1 = none from rfl] at h3
  rw [show oI none = -1 from rfl] at h3
  simp only [w28_0, w28_1, w28_4, w28_5, w28_6, w28_7, w28_8, w28_11, w28_13, w28_14, w28_18, w28_19, w28_22, w28_23, w28_24, w28_26, w28_29, w28_31, w28_33, w28_35, w28_38, w28_40, w28_42, w28_44, w28_45, w28_48, w28_51, w28_52, ks_105, hh, c_bitCount hs, h3, ↓reduceIte, Option.toList_some, Option.toList_none, List.cons_append, List.nil_append, and_self]
end HJ
