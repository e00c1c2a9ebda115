/-! what is heard: the class -/
theorem CC_of {σ σ' : dm_G} {P : Nat} {c : Nat → Nat} (h : ∀ i, i ≤ 9 → σ' (P + i) = σ (P + i)) (hC : CC σ P c) : CC σ' P c := by
  have e0 : σ' P = σ P := h 0 (by omega)
  have e1 := h 1 (by omega)
  have e2 := h 2 (by omega)
  have e3 := h 3 (by omega)
  have e4 := h 4 (by omega)
  have e5 := h 5 (by omega)
  have e6 := h 6 (by omega)
  have e7 := h 7 (by omega)
  have e8 := h 8 (by omega)
  have e9 := h 9 (by omega)
  unfold CC CR gi at *
  rw [e0, e1, e2, e3, e4, e5, e6, e7, e8, e9]
  exact hC
/-- where one who began at x is behind k turns -/
def psN (c ht : Nat → Nat) (x : Nat) : Nat → Nat := fun k => match k with
  | 0 => x
  | k + 1 => Tn c (psN c ht x k) (ht (k + 1))
/-- does all that was heard up to k fit one who began at x -/
def okN (c hs ht : Nat → Nat) (x : Nat) : Nat → Bool := fun k => match k with
  | 0 => decide (c (5 + x) = hs 0)
  | k + 1 => okN c hs ht x k && decide (c (5 + psN c ht x (k + 1)) = hs (k + 1))
def stN (c hs ht : Nat → Nat) (k : Nat) : Nat → Nat := fun x => match x with
  | 0 => 0
  | x + 1 => if okN c hs ht x k = true then stN c hs ht k x ||| 1 <<< x else stN c hs ht k x
def heN (c hs ht : Nat → Nat) (k : Nat) : Nat → Nat := fun x => match x with
  | 0 => 0
  | x + 1 => if okN c hs ht x k = true then heN c hs ht k x ||| 1 <<< psN c ht x k else heN c hs ht k x
theorem psN_lt {c ht : Nat → Nat} (hw : WC c) (hht : ∀ k, ht k < 3) {x : Nat} (hx : x < c 0) : ∀ k, psN c ht x k < c 0 := by
  intro k
  induction k with
  | zero => exact hx
  | succ k ih => exact Tn_lt hw ih (hht _)
theorem stN_tb {c hs ht : Nat → Nat} {k y : Nat} : ∀ x, (stN c hs ht k x).testBit y = (decide (y < x) && okN c hs ht y k) := by
  intro x
  induction x with
  | zero => simp [stN]
  | succ x ih =>
    rw [stN]
    by_cases hyx : y = x
    · subst hyx
      by_cases h : okN c hs ht y k = true
      · rw [if_pos h, Nat.testBit_or, tb_shl1, h]; simp
      · rw [if_neg h, ih]; simp [h]
    · have h1 : decide (y < x + 1) = decide (y < x) := by congr 1; apply propext; omega
      have h2 : decide (x = y) = false := decide_eq_false (fun z => hyx z.symm)
      rw [h1]
      split
      · rw [Nat.testBit_or, tb_shl1, h2, ih, Bool.or_false]
      · exact ih
theorem stN_lt {c hs ht : Nat → Nat} {k : Nat} : ∀ x, stN c hs ht k x < 2 ^ x := by
  intro x
  induction x with
  | zero => exact (by decide : 0 < 2 ^ 0)
  | succ x ih =>
    have h := Nat.lt_of_lt_of_le ih (Nat.pow_le_pow_right (by decide) (Nat.le_succ x))
    rw [stN]
    split
    · exact or_lt h (one_shl (Nat.lt_succ_self x))
    · exact h
theorem heN_lt {c hs ht : Nat → Nat} (hw : WC c) (hht : ∀ k, ht k < 3) {k : Nat} : ∀ x, x ≤ c 0 → heN c hs ht k x < 2 ^ c 0 := by
  intro x
  induction x with
  | zero => intro _; exact Nat.pow_pos (by decide)
  | succ x ih =>
    intro hx
    rw [heN]
    split
    · exact or_lt (ih (by omega)) (one_shl (psN_lt hw hht (by omega) k))
    · exact ih (by omega)
/-- the cells of Heard -/
def hst (σ : dm_G) (t s : Int32) (m : Nat) (f : Nat → Int32) : dm_G := dm_up (dm_up (seta σ 106 m f) 105 0 (.int t)) 105 1 (.int s)
theorem hst_cell {σ : dm_G} {t s : Int32} {m : Nat} {f : Nat → Int32} {a : Nat} (h : a ≠ 105 ∧ a ≠ 106) : hst σ t s m f a = σ a := by
  unfold hst
  rw [up_cell h.1, up_cell h.1, seta_cell h.2]
theorem hst_0 {σ : dm_G} {t s : Int32} {m : Nat} {f : Nat → Int32} : hst σ t s m f 105 0 = .int t := by simp [hst, dm_up]
theorem hst_1 {σ : dm_G} {t s : Int32} {m : Nat} {f : Nat → Int32} : hst σ t s m f 105 1 = .int s := by simp [hst, dm_up]
theorem hst_2 {σ : dm_G} {t s : Int32} {m : Nat} {f : Nat → Int32} : hst σ t s m f 105 2 = σ 105 2 := by simp [hst, dm_up, seta]
theorem hst_gi {σ : dm_G} {t s : Int32} {m : Nat} {f : Nat → Int32} {x : Nat} : gi (hst σ t s m f) 106 x = if x < m then f x else gi σ 106 x := by
  unfold hst
  rw [gi_up, if_neg (by omega), gi_up, if_neg (by omega), seta_gi]
  simp
theorem hst_s {σ : dm_G} {t s s' : Int32} {m : Nat} {f : Nat → Int32} : dm_up (hst σ t s m f) 105 1 (.int s') = hst σ t s' m f := by
  funext a b
  simp only [hst, dm_up]
  by_cases h : a = 105 ∧ b = 1
  · simp [h]
  · simp [h]
theorem hst_t {σ : dm_G} {t t' s : Int32} {m : Nat} {f : Nat → Int32} : dm_up (hst σ t s m f) 105 0 (.int t') = hst σ t' s m f := by
  funext a b
  simp only [hst, dm_up]
  by_cases h : a = 105 ∧ b = 1
  · simp [h]
  · by_cases h2 : a = 105 ∧ b = 0
    · simp [h2]
    · simp [h, h2]
theorem hst_m {σ : dm_G} {t s : Int32} {m : Nat} {f : Nat → Int32} : dm_up (hst σ t s m f) 106 m (.int (f m)) = hst σ t s (m + 1) f := by
  unfold hst
  rw [← seta_s]
  funext a b
  simp only [dm_up]
  by_cases h : a = 105
  · subst h; simp
  · simp [h]
section HI
variable {σ : dm_G} {P : Nat} {c hs ht : Nat → Nat} {Q : Option Value → dm_G → Prop}
theorem CC_hst {t s : Int32} {m : Nat} {f : Nat → Int32} (hC : CC σ P c) (hP : P ≤ 14) : CC (hst σ t s m f) P c := CC_of (fun i hi => hst_cell (by omega)) hC
theorem l_startWith {snd : Nat} (hC : CC σ P c) (hP : P ≤ 14) (hw : WC c) (h2 : σ 105 2 = (.ref (106 : Nat))) (hs0 : hs 0 = snd) (hsn : snd < 2 ^ 31) : ∀ (n x : Nat), x + n = c 0 → Wq none 25 12 [some (.ref (105 : Nat)), some (.ref P), some (.int (nI snd)), some (.int (nI x))] [] (hst σ (nI 0) (nI (stN c hs ht 0 x)) x nI) Q = Q none (hst σ (nI 0) (nI (stN c hs ht 0 (c 0))) (c 0) nI) := by
  obtain ⟨w0, w2, w3, w4, w5, w6, w7, w8, w9⟩ := id hw
  intro n
  induction n with
  | zero =>
    intro x hx
    obtain rfl : x = c 0 := by omega
    obtain ⟨⟨kP, ⟨t1, l1⟩, -⟩, ⟨r1, -⟩, ⟨i0, -⟩, f1, -⟩ := id (CC_hst (t := nI 0) (s := nI (stN c hs ht 0 (c 0))) (m := c 0) (f := nI) hC hP)
    have h1 : nI (c 0) ≤ nI (c 0) := nI_le (Nat.le_refl _) (by omega)
    rw [w25_12]
    simp only [w25_0, w25_1, w25_2, w25_5, w25_6, w25_7, w25_10, w25_11, w25_13, w25_14, w25_17, w25_20, w25_21, w25_24, w25_25, w25_26, w25_29, w25_30, w25_33, w25_34, w25_37, w25_38, w25_41, w25_42, w25_42i, w25_43, w25_46, w25_47, w25_48, w25_49, w25_50, w25_53, w25_56, w25_59, kP, i0, h1, ↓reduceIte, Option.toList_some, Option.toList_none, List.cons_append, List.nil_append]
  | succ n ih =>
    intro x hx
    have h1 : ¬ nI (c 0) ≤ nI x := nI_ge (by omega) (by omega)
    obtain ⟨⟨kP, ⟨t1, l1⟩, -⟩, ⟨r1, -⟩, ⟨i0, -⟩, f1, -⟩ := id (CC_hst (t := nI 0) (s := nI (stN c hs ht 0 x)) (m := x) (f := nI) hC hP)
    obtain ⟨-, ⟨r1', -⟩, -, f1', -⟩ := id (CC_hst (t := nI 0) (s := nI (stN c hs ht 0 x)) (m := x + 1) (f := nI) hC hP)
    have hx6 : x < kl 106 := by rw [kl_106]; omega
    have hx1 : x < kl (P + 1) := by rw [l1]; omega
    have hm := hst_m (σ := σ) (t := nI 0) (s := nI (stN c hs ht 0 x)) (m := x) (f := nI)
    have ih := ih (x + 1) (by omega)
    have h5 := w5 x (by omega)
    rw [w25_12]
    by_cases he : c (5 + x) = snd
    · have hok : okN c hs ht x 0 = true := by simp [okN, he, hs0]
      rw [stN, if_pos hok] at ih
      simp only [w25_0, w25_1, w25_2, w25_5, w25_6, w25_7, w25_10, w25_11, w25_13, w25_14, w25_17, w25_20, w25_21, w25_24, w25_25, w25_26, w25_29, w25_30, w25_33, w25_34, w25_37, w25_38, w25_41, w25_42, w25_42i, w25_43, w25_46, w25_47, w25_48, w25_49, w25_50, w25_53, w25_56, w25_59, kP, i0, h1, ks_105, hst_2, h2, c_put kt_106 hx6 (by rw [kl_106]; omega), hm, r1', c_at t1 hx1 (by omega), f1' x (by omega), he, hst_1, nI_shl 1 (show x < 32 by omega), nI_or, hst_s, nI_add, ↓reduceIte, Option.toList_some, Option.toList_none, List.cons_append, List.nil_append]
      exact ih
    · have hok : ¬ okN c hs ht x 0 = true := by simp [okN, he, hs0]
      rw [stN, if_neg hok] at ih
      have he' : ¬ nI (c (5 + x)) = nI snd := fun z => he (nI_inj (by omega) hsn z)
      simp only [w25_0, w25_1, w25_2, w25_5, w25_6, w25_7, w25_10, w25_11, w25_13, w25_14, w25_17, w25_20, w25_21, w25_24, w25_25, w25_26, w25_29, w25_30, w25_33, w25_34, w25_37, w25_38, w25_41, w25_42, w25_42i, w25_43, w25_46, w25_47, w25_48, w25_49, w25_50, w25_53, w25_56, w25_59, kP, i0, h1, ks_105, hst_2, h2, c_put kt_106 hx6 (by rw [kl_106]; omega), hm, r1', c_at t1 hx1 (by omega), f1' x (by omega), he', nI_add, ↓reduceIte, Option.toList_some, Option.toList_none, List.cons_append, List.nil_append]
      exact ih
theorem c_startWith {snd : Nat} (hC : CC σ P c) (hP : P ≤ 14) (hw : WC c) (h2 : σ 105 2 = (.ref (106 : Nat))) (hs0 : hs 0 = snd) (hsn : snd < 2 ^ 31) : Cq 25 [(.ref (105 : Nat)), .ref P, .int (nI snd)] σ Q = Q none (hst σ (nI 0) (nI (stN c hs ht 0 (c 0))) (c 0) nI) := by
  refine Cq_of (Er_of ?_)
  show Wq none 25 0 [some (.ref (105 : Nat)), some (.ref P), some (.int (nI snd)), none] [] _ _
  have h1 := l_startWith (Q := fun r' σ2 => r' = none ∧ σ2 = hst σ (nI 0) (nI (stN c hs ht 0 (c 0))) (c 0) nI) (hs := hs) (ht := ht) hC hP hw h2 hs0 hsn (c 0) 0 (by omega)
  have h3 : hst σ (nI 0) (nI (stN c hs ht 0 0)) 0 nI = dm_up (dm_up σ 105 0 (.int (nI 0))) 105 1 (.int (nI 0)) := by
    unfold hst
    rw [seta_0]
    rfl
  rw [h3] at h1
  simp only [w25_0, w25_1, w25_2, w25_5, w25_6, w25_7, w25_10, w25_11, w25_13, w25_14, w25_17, w25_20, w25_21, w25_24, w25_25, w25_26, w25_29, w25_30, w25_33, w25_34, w25_37, w25_38, w25_41, w25_42, w25_42i, w25_43, w25_46, w25_47, w25_48, w25_49, w25_50, w25_53, w25_56, w25_59, ks_105, h1, and_self]
end HI
