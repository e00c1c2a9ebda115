/-! the text: the reference's clauses n and m -/
def mnL (ρ : dm_G) : Nat → dm_G := fun n => match n with
  | 0 => ρ
  | k + 1 => dm_up (mnL ρ k) 120 (13 + k) (.int (nI (k / 3)))
section MO
variable {L : Nat} {tx : Nat → Nat} {ρ : dm_G} {fg vl : Nat} {sg : Int32} {rd : Nat → Nat}
theorem mnL_f : ∀ n, ∀ i j, ¬ i = 120 → mnL ρ n i j = ρ i j := by
  intro n
  induction n with
  | zero => exact fr_0
  | succ n ih => exact fr_up ih
theorem mnL_v : ∀ n i, gi (mnL ρ n) 120 i = if 13 ≤ i ∧ i < 13 + n then nI ((i - 13) / 3) else gi ρ 120 i := by
  intro n
  induction n with
  | zero => intro i; rw [if_neg (by omega)]; rfl
  | succ n ih =>
    intro i
    show gi (dm_up (mnL ρ n) 120 (13 + n) (.int (nI (n / 3)))) 120 i = _
    rw [gi_up, ih]
    by_cases z : i = 13 + n
    · rw [if_pos ⟨rfl, z⟩, if_pos (by omega), show i - 13 = n by omega]
    · rw [if_neg (fun w => z w.2)]
      by_cases y : 13 ≤ i ∧ i < 13 + n
      · rw [if_pos y, if_pos (by omega)]
      · rw [if_neg y, if_neg (by omega)]
theorem m_readN {p : Nat} (hT : mTX L tx ρ) (hR : RD ρ rd) (hp : p ≤ 240) (h0 : rd 0 ≤ 8) (h00 : rd 0 = 0 → ∀ i, rd i = 0) : ∃ v τ, Er 138 [(.ref (118 : Nat))] (mS ρ (p + 1) p sg fg vl) (some (.int v)) τ ∧ MPo ρ (tN L tx rd p) v τ := by
  have hL := hT.1
  have a1 : ∀ a b sg fg vl, mS ρ a b sg fg vl 118 1 = (.ref (120 : Nat)) := fun a b sg fg vl => (mS_o (by omega)).trans hT.2.2.2.2.1
  have g0 : gi ρ 120 0 = nI (rd 0) := hR 0 (by omega)
  have q1 := nuE_le (L := L) (tx := tx) (p + 1)
  have e : nI (rd 0) ≤ nI 0 ↔ rd 0 ≤ 0 := nI_leI (by omega) (by omega)
  by_cases hx : rd 0 = 0
  · have hx' : rd 0 ≤ 0 := by omega
    have hz : decide (rd 0 = 0) = true := decide_eq_true hx
    unfold tN
    rw [hz]
    have key : ∀ (Q : Option Value → dm_G → Prop) (R : dm_G) (b fg vl : Nat) (sg : Int32) (a : Nat), (∀ a b sg fg vl, mS R a b sg fg vl 118 1 = (.ref (120 : Nat))) → ∀ (f k : Nat), k + f = 24 → Wq none 138 30 [some (.ref (118 : Nat)), some (.int (nI k))] [] (mS (mnL R k) a b sg fg vl) Q = Wq none 138 54 [some (.ref (118 : Nat)), some (.int (nI 24))] [] (mS (mnL R 24) a b sg fg vl) Q := by
      intro Q R b fg vl sg a hR1 f
      induction f with
      | zero =>
        intro k hk
        obtain rfl : k = 24 := by omega
        rw [w138_30]
        simp only [w138_0, w138_1, w138_4, w138_5, w138_6, w138_9, w138_10, w138_11, w138_14, w138_15, w138_16, w138_17, w138_18, w138_20, w138_23, w138_26, w138_27, w138_28, w138_29, w138_31, w138_33, w138_36, w138_37, w138_40, w138_42, w138_43, w138_44, w138_45, w138_46, w138_47, w138_48, w138_51, w138_55, w138_58, (by decide : nI 24 ≤ nI 24), ↓reduceIte, Option.toList_some, Option.toList_none, List.cons_append, List.nil_append]
      | succ f ih =>
        intro k hk
        have h1 : ¬ nI 24 ≤ nI k := nI_ge (by omega) (by omega)
        have hk79 : 13 + k < 79 := by omega
        have c1 : ∀ a b sg fg vl, mS (mnL R k) a b sg fg vl 118 1 = (.ref (120 : Nat)) := fun a b sg fg vl => by
          have h := hR1 a b sg fg vl
          rw [mS_o (by omega)] at h ⊢
          rw [mnL_f k _ _ (by omega)]
          exact h
        have ed : nI k / nI 3 = nI (k / 3) := pk_div (show k < 2 ^ 31 by omega) (show 0 < 3 by omega) (show 3 < 2 ^ 31 by omega)
        rw [w138_30]
        simp only [w138_0, w138_1, w138_4, w138_5, w138_6, w138_9, w138_10, w138_11, w138_14, w138_15, w138_16, w138_17, w138_18, w138_20, w138_23, w138_26, w138_27, w138_28, w138_29, w138_31, w138_33, w138_36, w138_37, w138_40, w138_42, w138_43, w138_44, w138_45, w138_46, w138_47, w138_48, w138_51, w138_55, w138_58, ks_118, kt_120, h1, c1, nI_add, in_nI (show 13 + k < kl 120 by rw [kl_120]; omega) (by rw [kl_120]; omega), nI_clamp (show 13 + k < 2 ^ 31 by omega), (by decide : ¬ nI 3 = nI 0), (by decide : ¬ nI 3 = 0), not_false_eq_true, ed, mS_u, ↓reduceIte, Option.toList_some, Option.toList_none, List.cons_append, List.nil_append]
        exact ih (k + 1) (by omega)
    by_cases k1 : kN L tx 1 8 (p + 1) = 0
    · have z1 := nu_0 (L := L) (tx := tx) (s := psWo true (p, 0, 0)) rfl k1
      have n1 := fun Q => c_mnu0 (Q := Q) (b := p) (sg := sg) (fg := fg) (vl := vl) (j := 0) hT (show p + 1 ≤ 300 by omega) (show 0 < 79 by omega) (show 1 ≤ 1000 by omega) (show 8 ≤ 1000 by omega) k1
      have hT1 : mTX L tx (dm_up ρ 120 0 (.int (nI (nuV L tx (p + 1))))) := mTX_up hT
      have f1 : ∀ i j, ¬ i = 120 → dm_up ρ 120 0 (.int (nI (nuV L tx (p + 1)))) i j = ρ i j := fr_up fr_0
      generalize hσ : dm_up ρ 120 0 (.int (nI (nuV L tx (p + 1)))) = σ at n1 hT1 f1
      have fm : ∀ i j, ¬ i = 120 → mnL σ 24 i j = ρ i j := fun i j hi => (mnL_f 24 i j hi).trans (f1 i j hi)
      have hT2 : mTX L tx (mnL σ 24) := by
        obtain ⟨b1, b2, b3, b4, b5, b6⟩ := hT1
        exact ⟨b1, b2, (mnL_f 24 _ _ (by omega)).trans b3, (mnL_f 24 _ _ (by omega)).trans b4, (mnL_f 24 _ _ (by omega)).trans b5, fun i hi => (gi_of (mnL_f 24 _ _ (by omega))).trans (b6 i hi)⟩
      have c1 : ∀ a b sg fg vl, mS σ a b sg fg vl 118 1 = (.ref (120 : Nat)) := fun a b sg fg vl => (mS_o (by omega)).trans hT1.2.2.2.2.1
      have hRD : RD (mnL σ 24) (cwN (nuV L tx (p + 1))) := by
        intro i hi
        rw [mnL_v]
        unfold cwN
        by_cases y0 : i = 0
        · rw [if_neg (by omega), if_pos y0, ← hσ, y0, gi_uy]
        · rw [if_neg y0]
          by_cases y : 13 ≤ i ∧ i < 13 + 24
          · rw [if_pos y, if_pos (by omega)]
          · rw [if_neg y, if_neg (by omega), ← hσ, gi_u y0, hR i hi, h00 hx i]
      have pre : ∀ Q, Wq none 138 0 [some (.ref (118 : Nat)), none] [] (mS ρ (p + 1) p sg fg vl) Q = Wq none 138 54 [some (.ref (118 : Nat)), some (.int (nI 24))] [] (mS (mnL σ 24) (nuE L tx (p + 1)) (skB L tx (p + 1)) (nI 48) (nuE L tx (p + 1) - skB L tx (p + 1)) (nuV L tx (p + 1))) Q := by
        intro Q
        rw [← key Q σ (skB L tx (p + 1)) (nuE L tx (p + 1) - skB L tx (p + 1)) (nuV L tx (p + 1)) (nI 48) (nuE L tx (p + 1)) c1 24 0 (by omega)]
        simp only [w138_0, w138_1, w138_4, w138_5, w138_6, w138_9, w138_10, w138_11, w138_14, w138_15, w138_16, w138_17, w138_18, w138_20, w138_23, w138_26, w138_27, w138_28, w138_29, w138_31, w138_33, w138_36, w138_37, w138_40, w138_42, w138_43, w138_44, w138_45, w138_46, w138_47, w138_48, w138_51, w138_55, w138_58, ks_118, kt_120, a1, in_nI (show 0 < kl 120 by rw [kl_120]; omega) (by rw [kl_120]; omega), nI_clamp (show 0 < 2 ^ 31 by omega), mS_gi2, g0, e, hx', n1, nI_ne1, ↓reduceIte, Option.toList_some, Option.toList_none, List.cons_append, List.nil_append]
        rfl
      by_cases k5 : ltI L tx (skB L tx (nuE L tx (p + 1))) = nI 59
      · have z5 := sg_0 (L := L) (tx := tx) z1 k5
        have n5 := fun Q b sg fg vl => c_ends0 (Q := Q) (b := b) (sg := sg) (fg := fg) (vl := vl) hT2 (show nuE L tx (p + 1) ≤ 300 by omega) k5
        refine ⟨nI 1, mS (mnL σ 24) (skB L tx (nuE L tx (p + 1)) + 1) (skB L tx (nuE L tx (p + 1))) (nI 59) 0 0, Er_of ?_, fun _ => ⟨rfl, _, _, _, _, _, rfl, fm, hRD⟩, fun z => absurd z5 z⟩
        show Wq none 138 0 [some (.ref (118 : Nat)), none] [] _ _
        rw [pre]
        simp only [w138_0, w138_1, w138_4, w138_5, w138_6, w138_9, w138_10, w138_11, w138_14, w138_15, w138_16, w138_17, w138_18, w138_20, w138_23, w138_26, w138_27, w138_28, w138_29, w138_31, w138_33, w138_36, w138_37, w138_40, w138_42, w138_43, w138_44, w138_45, w138_46, w138_47, w138_48, w138_51, w138_54, w138_55, w138_58, ks_118, n5, (by decide : nI 1 &&& 1 = nI 1), (by decide : nI 0 &&& 1 = nI 0), ↓reduceIte, Option.toList_some, Option.toList_none, List.cons_append, List.nil_append, and_self]
      · refine ⟨nI 0, fH L tx (mnL σ 24) (nuE L tx (p + 1)) 1, Er_of ?_, MPo_f (sg_w1 z1 k5) (MF_H fm)⟩
        have n5 := fun Q b sg fg vl => c_fen (Q := Q) (b := b) (sg := sg) (fg := fg) (vl := vl) hT2 (show nuE L tx (p + 1) ≤ 300 by omega) k5
        show Wq none 138 0 [some (.ref (118 : Nat)), none] [] _ _
        rw [pre]
        simp only [w138_0, w138_1, w138_4, w138_5, w138_6, w138_9, w138_10, w138_11, w138_14, w138_15, w138_16, w138_17, w138_18, w138_20, w138_23, w138_26, w138_27, w138_28, w138_29, w138_31, w138_33, w138_36, w138_37, w138_40, w138_42, w138_43, w138_44, w138_45, w138_46, w138_47, w138_48, w138_51, w138_54, w138_55, w138_58, ks_118, n5, (by decide : nI 1 &&& 1 = nI 1), (by decide : nI 0 &&& 1 = nI 0), ↓reduceIte, Option.toList_some, Option.toList_none, List.cons_append, List.nil_append, and_self]
    · refine ⟨nI 0, fH L tx ρ (p + 1) (kN L tx 1 8 (p + 1)), Er_of ?_, MPo_f (isW_sg (nu_w rfl k1)) (MF_H fr_0)⟩
      have n1 := fun Q => c_fnu (Q := Q) (b := p) (sg := sg) (fg := fg) (vl := vl) (j := 0) hT (show p + 1 ≤ 300 by omega) (show 1 ≤ 1000 by omega) (show 8 ≤ 1000 by omega) k1
      show Wq none 138 0 [some (.ref (118 : Nat)), none] [] _ _
      simp only [w138_0, w138_1, w138_4, w138_5, w138_6, w138_9, w138_10, w138_11, w138_14, w138_15, w138_16, w138_17, w138_18, w138_20, w138_23, w138_26, w138_27, w138_28, w138_29, w138_31, w138_33, w138_36, w138_37, w138_40, w138_42, w138_43, w138_44, w138_45, w138_46, w138_47, w138_48, w138_51, w138_54, w138_55, w138_58, ks_118, kt_120, a1, in_nI (show 0 < kl 120 by rw [kl_120]; omega) (by rw [kl_120]; omega), nI_clamp (show 0 < 2 ^ 31 by omega), mS_gi2, g0, e, hx', n1, (by decide : nI 1 &&& 1 = nI 1), (by decide : nI 0 &&& 1 = nI 0), ↓reduceIte, Option.toList_some, Option.toList_none, List.cons_append, List.nil_append, and_self]
  · have hx' : ¬ rd 0 ≤ 0 := by omega
    have hz : decide (rd 0 = 0) = false := decide_eq_false hx
    unfold tN
    rw [hz]
    have w0 : isW (psWo false (p, 0, 0)) 3 p := ⟨rfl, by omega⟩
    refine ⟨nI 0, dm_up (mS ρ (p + 1) p sg fg vl) 118 21 (.int (nI 3)), Er_of ?_, MPo_f (isW_sg (isW_nu w0)) (MF_i fr_0)⟩
    show Wq none 138 0 [some (.ref (118 : Nat)), none] [] _ _
    simp only [w138_0, w138_1, w138_4, w138_5, w138_6, w138_9, w138_10, w138_11, w138_14, w138_15, w138_16, w138_17, w138_18, w138_20, w138_23, w138_26, w138_27, w138_28, w138_29, w138_31, w138_33, w138_36, w138_37, w138_40, w138_42, w138_43, w138_44, w138_45, w138_46, w138_47, w138_48, w138_51, w138_54, w138_55, w138_58, ks_118, kt_120, a1, in_nI (show 0 < kl 120 by rw [kl_120]; omega) (by rw [kl_120]; omega), nI_clamp (show 0 < 2 ^ 31 by omega), mS_gi2, g0, e, hx', c_fails, (by decide : nI 1 &&& 1 = nI 1), (by decide : nI 0 &&& 1 = nI 0), ↓reduceIte, Option.toList_some, Option.toList_none, List.cons_append, List.nil_append, and_self]
end MO
