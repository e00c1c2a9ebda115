/-! who leads whom: the reference's steps -/
section MM
variable {len : Nat → Nat → Option Nat} {pr : Nat → Nat → Nat} {G l N : Nat} {σ ρ : dm_G} {c n : Nat → Nat} {Q : Option Value → dm_G → Prop}
def lnF (len : Nat → Nat → Option Nat) (e g : Nat) : Nat := match len e g with
  | none => 100000000
  | some d => d
theorem tk_tb {r : Nat → Nat} {g : Nat} (hg : g < G) : ∀ e, (tkR G r e).testBit g = true ↔ ∃ k, k < e ∧ r k = g := by
  intro e
  induction e with
  | zero =>
    constructor
    · intro h
      rw [show tkR G r 0 = 0 from rfl] at h
      simp at h
    · rintro ⟨k, hk, -⟩; omega
  | succ e ih =>
    rw [tkR]
    by_cases z : r e < G
    · rw [if_pos z, Nat.testBit_or, tb_shl1, Bool.or_eq_true, ih, decide_eq_true_eq]
      constructor
      · rintro (⟨k, a, b⟩ | h)
        · exact ⟨k, by omega, b⟩
        · exact ⟨e, by omega, h⟩
      · rintro ⟨k, a, b⟩
        by_cases y : k = e
        · rw [y] at b; exact Or.inr b
        · exact Or.inl ⟨k, by omega, b⟩
    · rw [if_neg z, ih]
      constructor
      · rintro ⟨k, a, b⟩; exact ⟨k, by omega, b⟩
      · rintro ⟨k, a, b⟩
        by_cases y : k = e
        · rw [y] at b; omega
        · exact ⟨k, by omega, b⟩
def mkB (b : Bool) (r : Nat → Nat) (g : Nat) : Nat → Bool := fun k => match k with
  | 0 => b
  | k + 1 => mkB b r g k && decide (r k ≠ g)
theorem mkB_eq {b : Bool} {r : Nat → Nat} {g : Nat} (hg : g < G) : ∀ e, mkB b r g e = (b && !(tkR G r e).testBit g) := by
  intro e
  have h : ∀ e, mkB b r g e = true ↔ b = true ∧ ∀ k, k < e → r k ≠ g := by
    intro e
    induction e with
    | zero => exact ⟨fun h => ⟨h, fun k hk => absurd hk (by omega)⟩, fun h => h.1⟩
    | succ e ih =>
      rw [mkB, Bool.and_eq_true, ih, decide_eq_true_eq]
      constructor
      · rintro ⟨⟨a, x⟩, y⟩
        refine ⟨a, fun k hk => ?_⟩
        by_cases z : k = e
        · rw [z]; exact y
        · exact x k (by omega)
      · rintro ⟨a, x⟩
        exact ⟨⟨a, fun k hk => x k (by omega)⟩, x e (by omega)⟩
  have h2 := tk_tb (r := r) hg e
  by_cases z : (tkR G r e).testBit g = true
  · obtain ⟨k, hk, hr⟩ := h2.mp z
    rw [z]
    cases hm : mkB b r g e with
    | false => simp
    | true => exact absurd hr (((h e).mp hm).2 k hk)
  · have z' : (tkR G r e).testBit g = false := by simpa using z
    rw [z']
    have h3 : ∀ k, k < e → r k ≠ g := fun k hk hr => z (h2.mpr ⟨k, hk, hr⟩)
    cases b with
    | false =>
      cases hm : mkB false r g e with
      | false => rfl
      | true => exact absurd ((h e).mp hm).1 (by decide)
    | true => exact (h e).mpr ⟨rfl, h3⟩
/-- the reference's cells in a match: lengths, rows below e -/
def rlS (len : Nat → Nat → Option Nat) (N G : Nat) (σ ρ : dm_G) : Prop := (∀ a b, ¬ ((128 < a ∧ a < 133) ∨ (a = 118 ∧ 25 < b ∧ b < 29)) → ρ a b = σ a b) ∧ ∀ e g, e < N → g < G → gi ρ 130 (6 * e + g) = nI (lnF len e g)
def rlB (N : Nat) (B : Option ((Nat × Nat × Nat) × (Nat → Nat))) (ρ : dm_G) : Prop := match B with
  | none => ρ 118 26 = .int (-1)
  | some b => ρ 118 26 = .int (nI b.1.1) ∧ ρ 118 27 = .int (nI b.1.2.1) ∧ ρ 118 28 = .int (nI b.1.2.2) ∧ ∀ j, j < N → gi ρ 132 j = nI (b.2 j)
theorem rlB_of {B : Option ((Nat × Nat × Nat) × (Nat → Nat))} {ρ' : dm_G} (hk : ∀ a b, (a = 118 ∧ 25 < b ∧ b < 29) ∨ a = 132 → ρ' a b = ρ a b) (h : rlB N B ρ) : rlB N B ρ' := by
  cases B with
  | none => exact (hk _ _ (by omega)).trans h
  | some b =>
    obtain ⟨a, b, c, d⟩ := h
    exact ⟨(hk _ _ (by omega)).trans a, (hk _ _ (by omega)).trans b, (hk _ _ (by omega)).trans c, fun j hj => (gi_of (hk _ _ (by omega))).trans (d j hj)⟩
theorem rlS_of {ρ' : dm_G} (hk : ∀ a b, ¬ ((130 < a ∧ a < 133) ∨ (a = 118 ∧ 25 < b ∧ b < 29)) → ρ' a b = ρ a b) (h : rlS len N G σ ρ) : rlS len N G σ ρ' :=
  ⟨fun a b z => (hk a b (by omega)).trans (h.1 a b z), fun e g he hg => (gi_of (hk _ _ (by omega))).trans (h.2 e g he hg)⟩
theorem rlS_M (hM : MR σ) (h : rlS len N G σ ρ) : MR ρ := MR_k (fun a b z => h.1 a b (by omega)) hM
theorem rlS_C (hc : MC σ c) (h : rlS len N G σ ρ) : MC ρ c := MC_k (fun a b z => h.1 a b (by omega)) hc
theorem rlS_N (hn : MN σ n) (h : rlS len N G σ ρ) : MN ρ n := MN_k (fun a b z => h.1 a b (by omega)) hn
theorem c_mayBe {e g : Nat} {r : Nat → Nat} (hM : MR σ) (hc : MC σ c) (hw : WC c) (hG : G = c 2) (hN : N = c 3) (hlen : ∀ e g d, len e g = some d → d ≤ 8) (hS : rlS len N G σ ρ) (he : e < N) (hg : g ≤ G) (hr : ∀ j, j < e → r j ≤ G ∧ gi ρ 131 j = nI (r j)) (hge : gi ρ 131 e = nI g) : Cq 183 [(.ref (118 : Nat)), .int (nI e)] ρ Q = Q (some (.int (if mayB len G r e g = true then nI 1 else nI 0))) ρ := by
  have w2 := hw.2.1
  have w3 := hw.2.2.1
  have hM' := rlS_M hM hS
  have hc' := rlS_C hc hS
  obtain ⟨m0, m1, m2, m3, m5, m6, m8, m11, m12, m14, m22, m23, m24, m25, m29, m30, m31, m32⟩ := id hM'
  have e2 : gi ρ 119 2 = nI G := by rw [hG]; exact hc' 2 (by omega)
  have eg : nI g = nI G ↔ g = G := nI_eq (by omega) (by omega)
  refine Cq_of (Er_of ?_)
  show Wq none 183 0 [some (.ref (118 : Nat)), some (.int (nI e)), none, none, none] [] ρ _
  unfold mayB
  by_cases hgG : g = G
  · subst hgG
    simp only [w183_0, w183_1, w183_4, w183_5, w183_6, w183_7, w183_8, w183_9, w183_12, w183_13, w183_14, w183_17, w183_18, w183_19, w183_20, w183_23, w183_25, w183_26, w183_27, w183_28, w183_29, w183_30, w183_32, w183_35, w183_36, w183_39, w183_40, w183_41, w183_42, w183_46, w183_47, w183_50, w183_51, w183_54, w183_55, w183_58, w183_60, w183_61, w183_62, w183_65, w183_66, w183_69, w183_70, w183_71, w183_74, w183_77, w183_78, ks_118, m0, m24, kt_119, kt_131, in_nI (show e < kl 131 by rw [kl_131]; omega) (by rw [kl_131]; omega), nI_clamp (show e < 2 ^ 31 by omega), hge, in_nI (show 2 < kl 119 by rw [kl_119]; omega) (by rw [kl_119]; omega), nI_clamp (show 2 < 2 ^ 31 by omega), e2, decide_true, Bool.true_or, (by decide : nI 1 &&& 1 = nI 1), (by decide : nI 0 &&& 1 = nI 0), ↓reduceIte, Option.toList_some, Option.toList_none, List.cons_append, List.nil_append, and_self]
  · have hlt : g < G := by omega
    have h130 := hS.2 e g he hlt
    have key : ∀ (Q : Option Value → dm_G → Prop) (b : Bool) (f k : Nat), k + f = e → Wq none 183 44 [some (.ref (118 : Nat)), some (.int (nI e)), some (.int (nI g)), some (.int (if mkB b r g k = true then nI 1 else nI 0)), some (.int (nI k))] [] ρ Q = Q (some (.int (if mkB b r g e = true then nI 1 else nI 0))) ρ := by
      intro Q b f
      induction f with
      | zero =>
        intro k hk
        obtain rfl : k = e := by omega
        rw [w183_44]
        by_cases z : mkB b r g k = true
        · simp only [w183_0, w183_1, w183_4, w183_5, w183_6, w183_7, w183_8, w183_9, w183_12, w183_13, w183_14, w183_17, w183_18, w183_19, w183_20, w183_23, w183_25, w183_26, w183_27, w183_28, w183_29, w183_30, w183_32, w183_35, w183_36, w183_39, w183_40, w183_41, w183_42, w183_46, w183_47, w183_50, w183_51, w183_54, w183_55, w183_58, w183_60, w183_61, w183_62, w183_65, w183_66, w183_69, w183_70, w183_71, w183_74, w183_77, w183_78, nI_le (Nat.le_refl k) (show k < 2 ^ 31 by omega), z, (by decide : nI 1 &&& 1 = nI 1), (by decide : nI 0 &&& 1 = nI 0), ↓reduceIte, Option.toList_some, Option.toList_none, List.cons_append, List.nil_append]
        · simp only [w183_0, w183_1, w183_4, w183_5, w183_6, w183_7, w183_8, w183_9, w183_12, w183_13, w183_14, w183_17, w183_18, w183_19, w183_20, w183_23, w183_25, w183_26, w183_27, w183_28, w183_29, w183_30, w183_32, w183_35, w183_36, w183_39, w183_40, w183_41, w183_42, w183_46, w183_47, w183_50, w183_51, w183_54, w183_55, w183_58, w183_60, w183_61, w183_62, w183_65, w183_66, w183_69, w183_70, w183_71, w183_74, w183_77, w183_78, nI_le (Nat.le_refl k) (show k < 2 ^ 31 by omega), z, (by decide : nI 1 &&& 1 = nI 1), (by decide : nI 0 &&& 1 = nI 0), ↓reduceIte, Option.toList_some, Option.toList_none, List.cons_append, List.nil_append, Bool.false_eq_true]
      | succ f ih =>
        intro k hk
        have ih := ih (k + 1) (by omega)
        have h1 : ¬ nI e ≤ nI k := nI_ge (by omega) (by omega)
        obtain ⟨a1, a2⟩ := hr k (by omega)
        have er : nI (r k) = nI g ↔ r k = g := nI_eq (by omega) (by omega)
        rw [mkB] at ih
        rw [w183_44]
        by_cases z : mkB b r g k = true
        · by_cases y : r k = g
          · rw [z, decide_eq_false (fun w => w y), Bool.and_false] at ih
            simp only [w183_0, w183_1, w183_4, w183_5, w183_6, w183_7, w183_8, w183_9, w183_12, w183_13, w183_14, w183_17, w183_18, w183_19, w183_20, w183_23, w183_25, w183_26, w183_27, w183_28, w183_29, w183_30, w183_32, w183_35, w183_36, w183_39, w183_40, w183_41, w183_42, w183_46, w183_47, w183_50, w183_51, w183_54, w183_55, w183_58, w183_60, w183_61, w183_62, w183_65, w183_66, w183_69, w183_70, w183_71, w183_74, w183_77, w183_78, ks_118, h1, z, nI_ne1, m24, kt_131, in_nI (show k < kl 131 by rw [kl_131]; omega) (by rw [kl_131]; omega), nI_clamp (show k < 2 ^ 31 by omega), a2, er, y, nI_add, ↓reduceIte, Option.toList_some, Option.toList_none, List.cons_append, List.nil_append]
            simp only [↓reduceIte, Option.toList_some, Option.toList_none, List.cons_append, List.nil_append, Bool.false_eq_true] at ih
            exact ih
          · rw [z, decide_eq_true y, Bool.and_true] at ih
            simp only [w183_0, w183_1, w183_4, w183_5, w183_6, w183_7, w183_8, w183_9, w183_12, w183_13, w183_14, w183_17, w183_18, w183_19, w183_20, w183_23, w183_25, w183_26, w183_27, w183_28, w183_29, w183_30, w183_32, w183_35, w183_36, w183_39, w183_40, w183_41, w183_42, w183_46, w183_47, w183_50, w183_51, w183_54, w183_55, w183_58, w183_60, w183_61, w183_62, w183_65, w183_66, w183_69, w183_70, w183_71, w183_74, w183_77, w183_78, ks_118, h1, z, nI_ne1, m24, kt_131, in_nI (show k < kl 131 by rw [kl_131]; omega) (by rw [kl_131]; omega), nI_clamp (show k < 2 ^ 31 by omega), a2, er, y, nI_add, ↓reduceIte, Option.toList_some, Option.toList_none, List.cons_append, List.nil_append]
            simp only [↓reduceIte, Option.toList_some, Option.toList_none, List.cons_append, List.nil_append] at ih
            exact ih
        · have z' : mkB b r g k = false := by simpa using z
          rw [z', Bool.false_and] at ih
          simp only [w183_0, w183_1, w183_4, w183_5, w183_6, w183_7, w183_8, w183_9, w183_12, w183_13, w183_14, w183_17, w183_18, w183_19, w183_20, w183_23, w183_25, w183_26, w183_27, w183_28, w183_29, w183_30, w183_32, w183_35, w183_36, w183_39, w183_40, w183_41, w183_42, w183_46, w183_47, w183_50, w183_51, w183_54, w183_55, w183_58, w183_60, w183_61, w183_62, w183_65, w183_66, w183_69, w183_70, w183_71, w183_74, w183_77, w183_78, ks_118, h1, z', nI_add, ↓reduceIte, Option.toList_some, Option.toList_none, List.cons_append, List.nil_append, Bool.false_eq_true]
          simp only [↓reduceIte, Option.toList_some, Option.toList_none, List.cons_append, List.nil_append, Bool.false_eq_true] at ih
          exact ih
    have hmk := fun b => mkB_eq (b := b) (r := r) hlt e
    rw [decide_eq_false hgG, Bool.false_or]
    cases hd : len e g with
    | none =>
      have hl : lnF len e g = 100000000 := by unfold lnF; rw [hd]
      rw [hl] at h130
      have k0 := key (fun r' σ2 => r' = some (.int (if ((none : Option Nat).isSome && !(tkR G r e).testBit g) = true then nI 1 else nI 0)) ∧ σ2 = ρ) false e 0 (by omega)
      rw [show mkB false r g 0 = false from rfl, hmk] at k0
      simp only [↓reduceIte, Option.toList_some, Option.toList_none, List.cons_append, List.nil_append, Bool.false_eq_true] at k0
      simp only [w183_0, w183_1, w183_4, w183_5, w183_6, w183_7, w183_8, w183_9, w183_12, w183_13, w183_14, w183_17, w183_18, w183_19, w183_20, w183_23, w183_25, w183_26, w183_27, w183_28, w183_29, w183_30, w183_32, w183_35, w183_36, w183_39, w183_40, w183_41, w183_42, w183_46, w183_47, w183_50, w183_51, w183_54, w183_55, w183_58, w183_60, w183_61, w183_62, w183_65, w183_66, w183_69, w183_70, w183_71, w183_74, w183_77, w183_78, ks_118, m0, m23, m24, kt_119, kt_130, kt_131, in_nI (show e < kl 131 by rw [kl_131]; omega) (by rw [kl_131]; omega), nI_clamp (show e < 2 ^ 31 by omega), hge, in_nI (show 2 < kl 119 by rw [kl_119]; omega) (by rw [kl_119]; omega), nI_clamp (show 2 < 2 ^ 31 by omega), e2, eg, hgG, pk_mul, nI_add, in_nI (show 6 * e + g < kl 130 by rw [kl_130]; omega) (by rw [kl_130]; omega), nI_clamp (show 6 * e + g < 2 ^ 31 by omega), h130, (by decide : nI 100000000 ≤ nI 100000000), ↓reduceIte, Option.toList_some, Option.toList_none, List.cons_append, List.nil_append]
      rw [k0]
      simp
    | some d =>
      have hd8 := hlen e g d hd
      have hl : lnF len e g = d := by unfold lnF; rw [hd]
      rw [hl] at h130
      have hf : ¬ nI 100000000 ≤ nI d := nI_ge (by omega) (by omega)
      have k0 := key (fun r' σ2 => r' = some (.int (if ((some d).isSome && !(tkR G r e).testBit g) = true then nI 1 else nI 0)) ∧ σ2 = ρ) true e 0 (by omega)
      rw [show mkB true r g 0 = true from rfl, hmk] at k0
      simp only [↓reduceIte, Option.toList_some, Option.toList_none, List.cons_append, List.nil_append] at k0
      simp only [w183_0, w183_1, w183_4, w183_5, w183_6, w183_7, w183_8, w183_9, w183_12, w183_13, w183_14, w183_17, w183_18, w183_19, w183_20, w183_23, w183_25, w183_26, w183_27, w183_28, w183_29, w183_30, w183_32, w183_35, w183_36, w183_39, w183_40, w183_41, w183_42, w183_46, w183_47, w183_50, w183_51, w183_54, w183_55, w183_58, w183_60, w183_61, w183_62, w183_65, w183_66, w183_69, w183_70, w183_71, w183_74, w183_77, w183_78, ks_118, m0, m23, m24, kt_119, kt_130, kt_131, in_nI (show e < kl 131 by rw [kl_131]; omega) (by rw [kl_131]; omega), nI_clamp (show e < 2 ^ 31 by omega), hge, in_nI (show 2 < kl 119 by rw [kl_119]; omega) (by rw [kl_119]; omega), nI_clamp (show 2 < 2 ^ 31 by omega), e2, eg, hgG, pk_mul, nI_add, in_nI (show 6 * e + g < kl 130 by rw [kl_130]; omega) (by rw [kl_130]; omega), nI_clamp (show 6 * e + g < 2 ^ 31 by omega), h130, hf, ↓reduceIte, Option.toList_some, Option.toList_none, List.cons_append, List.nil_append]
      rw [k0]
      simp
/-- rows at a place: the next that may be, and what is behind it -/
theorem rwT_f {may : Nat → Bool} {sub : Nat → List (Nat → Nat)} : ∀ f t, (fnd may f t = none → rwT may sub f t = []) ∧ ∀ g, fnd may f t = some g → rwT may sub f t = sub g ++ rwT may sub (f - (g - t) - 1) (g + 1) := by
  intro f
  induction f with
  | zero => intro t; exact ⟨fun _ => rfl, fun g h => by cases h⟩
  | succ f ih =>
    intro t
    obtain ⟨i1, i2⟩ := ih (t + 1)
    by_cases z : may t = true
    · refine ⟨fun h => ?_, fun g h => ?_⟩
      · rw [fnd, if_pos z] at h; cases h
      · rw [fnd, if_pos z] at h
        cases h
        rw [rwTS, if_pos z, show f + 1 - (t - t) - 1 = f by omega]
    · refine ⟨fun h => ?_, fun g h => ?_⟩
      · rw [fnd, if_neg z] at h
        rw [rwTS, if_neg z, i1 h, List.append_nil]
      · rw [fnd, if_neg z] at h
        have hg := (fnd_some _ _ _ h).1
        rw [rwTS, if_neg z, i2 g h, List.nil_append, show f + 1 - (g - t) - 1 = f - (g - (t + 1)) - 1 by omega]
/-- behind a goesOn at e that goes on with t: -/
def gnP (len : Nat → Nat → Option Nat) (G e : Nat) (r : Nat → Nat) (o : Option Nat) (ρ ρ' : dm_G) : Prop := (∀ a b, ¬ (a = 131 ∧ (b = e ∨ b = e + 1)) → ρ' a b = ρ a b) ∧ (∀ g, o = some g → gi ρ' 131 e = nI g ∧ (e < 5 → gi ρ' 131 (e + 1) = -1))
theorem l_goesL {e : Nat} {r : Nat → Nat} (hM : MR σ) (hc : MC σ c) (hw : WC c) (hG : G = c 2) (hN : N = c 3) (hlen : ∀ e g d, len e g = some d → d ≤ 8) (hS : rlS len N G σ ρ) (he : e < N) (hr : ∀ j, j < e → r j ≤ G ∧ gi ρ 131 j = nI (r j)) : ∀ (f g : Nat) (ρ1 : dm_G), g + f = G + 1 → (∀ a b, ¬ (a = 131 ∧ b = e) → ρ1 a b = ρ a b) → gi ρ1 131 e = nI g → (∀ ρ', gnP len G e r (fnd (mayB len G r e) f g) ρ ρ' → Q (some (.int (if (fnd (mayB len G r e) f g).isSome = true then nI (e + 1) else nI e - nI 1))) ρ') → Wq none 185 10 [some (.ref (118 : Nat)), some (.int (nI e))] [] ρ1 Q := by
  have w2 := hw.2.1
  have w3 := hw.2.2.1
  intro f
  induction f with
  | zero =>
    intro g ρ1 hgf hk hge hq
    obtain rfl : g = G + 1 := by omega
    have hS1 : rlS len N G σ ρ1 := rlS_of (fun a b z => hk a b (by omega)) hS
    have hM' := rlS_M hM hS1
    obtain ⟨m0, m1, m2, m3, m5, m6, m8, m11, m12, m14, m22, m23, m24, m25, m29, m30, m31, m32⟩ := id hM'
    have e2 : gi ρ1 119 2 = nI G := by rw [hG]; exact rlS_C hc hS1 2 (by omega)
    have h1 : nI G < nI (G + 1) := (nI_ltI (by omega) (by omega)).mpr (by omega)
    have h2 : ¬ nI (G + 1) ≤ nI G := nI_ge (by omega) (by omega)
    rw [w185_10]
    simp only [w185_0, w185_1, w185_4, w185_5, w185_6, w185_7, w185_8, w185_9, w185_11, w185_14, w185_15, w185_16, w185_17, w185_20, w185_21, w185_22, w185_25, w185_26, w185_27, w185_30, w185_33, w185_34, w185_37, w185_38, w185_39, w185_40, w185_41, w185_42, w185_43, w185_46, w185_47, w185_50, w185_51, w185_52, w185_53, w185_56, w185_57, w185_58, w185_61, w185_62, w185_63, w185_64, w185_65, w185_66, w185_67, w185_70, w185_71, w185_74, w185_75, w185_76, w185_77, w185_78, w185_79, w185_80, w185_81, w185_82, ks_118, m0, m24, kt_119, kt_131, in_nI (show e < kl 131 by rw [kl_131]; omega) (by rw [kl_131]; omega), nI_clamp (show e < 2 ^ 31 by omega), hge, in_nI (show 2 < kl 119 by rw [kl_119]; omega) (by rw [kl_119]; omega), nI_clamp (show 2 < 2 ^ 31 by omega), e2, h1, h2, ↓reduceIte, Option.toList_some, Option.toList_none, List.cons_append, List.nil_append]
    exact hq ρ1 ⟨fun a b z => hk a b (by omega), fun g h => by cases h⟩
  | succ f ih =>
    intro g ρ1 hgf hk hge hq
    have hS1 : rlS len N G σ ρ1 := rlS_of (fun a b z => hk a b (by omega)) hS
    have hM' := rlS_M hM hS1
    obtain ⟨m0, m1, m2, m3, m5, m6, m8, m11, m12, m14, m22, m23, m24, m25, m29, m30, m31, m32⟩ := id hM'
    have e2 : gi ρ1 119 2 = nI G := by rw [hG]; exact rlS_C hc hS1 2 (by omega)
    have h1 : ¬ nI G < nI g := nI_nlt (by omega) (by omega)
    have h2 : nI g ≤ nI G := nI_le (by omega) (by omega)
    have hr1 : ∀ j, j < e → r j ≤ G ∧ gi ρ1 131 j = nI (r j) := fun j hj => ⟨(hr j hj).1, (gi_of (hk _ _ (by omega))).trans (hr j hj).2⟩
    have hmb := fun Q => c_mayBe (Q := Q) hM hc hw hG hN hlen hS1 he (show g ≤ G by omega) hr1 hge
    rw [fnd] at hq
    rw [w185_10]
    by_cases hm : mayB len G r e g = true
    · rw [if_pos hm] at hq
      by_cases h5 : e < 5
      · have h6 : ¬ nI 5 ≤ nI e := nI_ge h5 (by omega)
        simp only [w185_0, w185_1, w185_4, w185_5, w185_6, w185_7, w185_8, w185_9, w185_11, w185_14, w185_15, w185_16, w185_17, w185_20, w185_21, w185_22, w185_25, w185_26, w185_27, w185_30, w185_33, w185_34, w185_37, w185_38, w185_39, w185_40, w185_41, w185_42, w185_43, w185_46, w185_47, w185_50, w185_51, w185_52, w185_53, w185_56, w185_57, w185_58, w185_61, w185_62, w185_63, w185_64, w185_65, w185_66, w185_67, w185_70, w185_71, w185_74, w185_75, w185_76, w185_77, w185_78, w185_79, w185_80, w185_81, w185_82, ks_118, m0, m24, kt_119, kt_131, in_nI (show e < kl 131 by rw [kl_131]; omega) (by rw [kl_131]; omega), nI_clamp (show e < 2 ^ 31 by omega), hge, in_nI (show 2 < kl 119 by rw [kl_119]; omega) (by rw [kl_119]; omega), nI_clamp (show 2 < 2 ^ 31 by omega), e2, h1, h2, h6, hmb, hm, nI_ne1, nI_add, in_nI (show e + 1 < kl 131 by rw [kl_131]; omega) (by rw [kl_131]; omega), nI_clamp (show e + 1 < 2 ^ 31 by omega), ↓reduceIte, Option.toList_some, Option.toList_none, List.cons_append, List.nil_append]
        refine hq _ ⟨fun a b z => by rw [up_get, if_neg (by omega), hk a b (by omega)], fun g' h => ?_⟩
        cases h
        refine ⟨?_, fun _ => ?_⟩
        · rw [gi_up, if_neg (by omega)]
          exact hge
        · rw [gi_up, if_pos ⟨rfl, rfl⟩]
      · have h6 : nI 5 ≤ nI e := nI_le (by omega) (by omega)
        simp only [w185_0, w185_1, w185_4, w185_5, w185_6, w185_7, w185_8, w185_9, w185_11, w185_14, w185_15, w185_16, w185_17, w185_20, w185_21, w185_22, w185_25, w185_26, w185_27, w185_30, w185_33, w185_34, w185_37, w185_38, w185_39, w185_40, w185_41, w185_42, w185_43, w185_46, w185_47, w185_50, w185_51, w185_52, w185_53, w185_56, w185_57, w185_58, w185_61, w185_62, w185_63, w185_64, w185_65, w185_66, w185_67, w185_70, w185_71, w185_74, w185_75, w185_76, w185_77, w185_78, w185_79, w185_80, w185_81, w185_82, ks_118, m0, m24, kt_119, kt_131, in_nI (show e < kl 131 by rw [kl_131]; omega) (by rw [kl_131]; omega), nI_clamp (show e < 2 ^ 31 by omega), hge, in_nI (show 2 < kl 119 by rw [kl_119]; omega) (by rw [kl_119]; omega), nI_clamp (show 2 < 2 ^ 31 by omega), e2, h1, h2, h6, hmb, hm, nI_ne1, nI_add, ↓reduceIte, Option.toList_some, Option.toList_none, List.cons_append, List.nil_append]
        refine hq _ ⟨fun a b z => hk a b (by omega), fun g' h => ?_⟩
        cases h
        exact ⟨hge, fun z => absurd z h5⟩
    · rw [if_neg hm] at hq
      simp only [w185_0, w185_1, w185_4, w185_5, w185_6, w185_7, w185_8, w185_9, w185_11, w185_14, w185_15, w185_16, w185_17, w185_20, w185_21, w185_22, w185_25, w185_26, w185_27, w185_30, w185_33, w185_34, w185_37, w185_38, w185_39, w185_40, w185_41, w185_42, w185_43, w185_46, w185_47, w185_50, w185_51, w185_52, w185_53, w185_56, w185_57, w185_58, w185_61, w185_62, w185_63, w185_64, w185_65, w185_66, w185_67, w185_70, w185_71, w185_74, w185_75, w185_76, w185_77, w185_78, w185_79, w185_80, w185_81, w185_82, ks_118, m0, m24, kt_119, kt_131, in_nI (show e < kl 131 by rw [kl_131]; omega) (by rw [kl_131]; omega), nI_clamp (show e < 2 ^ 31 by omega), hge, in_nI (show 2 < kl 119 by rw [kl_119]; omega) (by rw [kl_119]; omega), nI_clamp (show 2 < 2 ^ 31 by omega), e2, h1, hmb, hm, nI_add, ↓reduceIte, Option.toList_some, Option.toList_none, List.cons_append, List.nil_append, Bool.false_eq_true]
      refine ih (g + 1) _ (by omega) (fun a b z => by rw [up_get, if_neg (by omega), hk a b z]) ?_ hq
      rw [gi_up, if_pos ⟨rfl, rfl⟩]
theorem c_goes {e t f : Nat} {r : Nat → Nat} {v : Int32} (hM : MR σ) (hc : MC σ c) (hw : WC c) (hG : G = c 2) (hN : N = c 3) (hlen : ∀ e g d, len e g = some d → d ≤ 8) (hS : rlS len N G σ ρ) (he : e < N) (hr : ∀ j, j < e → r j ≤ G ∧ gi ρ 131 j = nI (r j)) (hv : gi ρ 131 e = v) (ht : v + nI 1 = nI t) (hf : t + f = G + 1) : ∃ ρ', (∀ Q : Option Value → dm_G → Prop, Cq 185 [(.ref (118 : Nat)), .int (nI e)] ρ Q = Q (some (.int (if (fnd (mayB len G r e) f t).isSome = true then nI (e + 1) else nI e - nI 1))) ρ') ∧ gnP len G e r (fnd (mayB len G r e) f t) ρ ρ' := by
  refine ex_of (Er_ex ?_)
  show Wq none 185 0 [some (.ref (118 : Nat)), some (.int (nI e))] [] ρ _
  have w3 := hw.2.2.1
  have hM' := rlS_M hM hS
  obtain ⟨m0, m1, m2, m3, m5, m6, m8, m11, m12, m14, m22, m23, m24, m25, m29, m30, m31, m32⟩ := id hM'
  simp only [w185_0, w185_1, w185_4, w185_5, w185_6, w185_7, w185_8, w185_9, w185_11, w185_14, w185_15, w185_16, w185_17, w185_20, w185_21, w185_22, w185_25, w185_26, w185_27, w185_30, w185_33, w185_34, w185_37, w185_38, w185_39, w185_40, w185_41, w185_42, w185_43, w185_46, w185_47, w185_50, w185_51, w185_52, w185_53, w185_56, w185_57, w185_58, w185_61, w185_62, w185_63, w185_64, w185_65, w185_66, w185_67, w185_70, w185_71, w185_74, w185_75, w185_76, w185_77, w185_78, w185_79, w185_80, w185_81, w185_82, ks_118, m24, kt_131, in_nI (show e < kl 131 by rw [kl_131]; omega) (by rw [kl_131]; omega), nI_clamp (show e < 2 ^ 31 by omega), hv, ht, ↓reduceIte, Option.toList_some, Option.toList_none, List.cons_append, List.nil_append]
  refine l_goesL hM hc hw hG hN hlen hS he hr f t _ hf (fun a b z => by rw [up_get, if_neg z]) (by rw [gi_up, if_pos ⟨rfl, rfl⟩]) (fun ρ' h => ⟨rfl, h⟩)
end MM
