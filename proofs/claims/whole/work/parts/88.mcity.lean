/-! the text: the reference's city, as a call -/
def bnN (c : Nat → Nat) : Nat → Nat := fun i => if i < 6 then c (37 + i) else if i < 12 then c (49 + (i - 6)) else 0
def bgH (ρ : dm_G) : dm_G := dm_up (dm_up (dm_up (dm_up (dm_up (cpL (cpL (zlo ρ 121 22) 119 37 121 0 6) 119 49 121 6 6) 118 4 (.int (nI 0))) 118 13 (.int (nI 0))) 118 15 (.int (nI 0))) 124 0 (.int (nI 0))) 124 1 (.int (nI 0))
section MY
variable {L : Nat} {tx : Nat → Nat} {σ ρ : dm_G} {rd : Nat → Nat} {Q : Option Value → dm_G → Prop}
theorem cpL_o {A i B j k a b : Nat} (h : ¬ a = B) : cpL σ A i B j k a b = σ a b := if_neg (fun z => h z.1)
theorem nar_0 : vp_nar .boolean (nI 0) = nI 0 := by decide
theorem c_begins (hM : MR ρ) : Cq 130 [(.ref (118 : Nat))] ρ Q = Q none (bgH ρ) := by
  obtain ⟨m0, m1, m2, m3, m5, m6, m8, m11, m12, m14, m22, m23, m24, m25, m29, m30, m31, m32⟩ := id hM
  have z8 : ∀ (k b : Nat), zlo ρ 121 k 118 b = ρ 118 b := fun k b => zlo_o (by omega)
  have zc : ∀ (b : Nat), cpL (zlo ρ 121 22) 119 37 121 0 6 118 b = ρ 118 b := fun b => (cpL_o (by omega)).trans (z8 _ _)
  have zd : ∀ (b : Nat), cpL (cpL (zlo ρ 121 22) 119 37 121 0 6) 119 49 121 6 6 118 b = ρ 118 b := fun b => (cpL_o (by omega)).trans (zc _)
  have key : ∀ (Q : Option Value → dm_G → Prop) (f k : Nat), k + f = 22 → Wq none 130 2 [some (.ref (118 : Nat)), some (.int (nI k))] [] (zlo ρ 121 k) Q = Wq none 130 21 [some (.ref (118 : Nat)), some (.int (nI 22))] [] (zlo ρ 121 22) Q := by
    intro Q f
    induction f with
    | zero =>
      intro k hk
      obtain rfl : k = 22 := by omega
      rw [w130_2]
      simp only [w130_0, w130_1, w130_3, w130_5, w130_8, w130_9, w130_12, w130_13, w130_14, w130_15, w130_18, w130_22, w130_25, w130_27, w130_28, w130_31, w130_32, w130_34, w130_37, w130_38, w130_41, w130_43, w130_44, w130_47, w130_49, w130_51, w130_54, w130_55, w130_56, w130_59, w130_60, w130_61, w130_64, w130_65, w130_66, w130_69, w130_70, w130_73, w130_74, w130_75, w130_76, w130_77, w130_80, w130_81, w130_82, w130_83, (by decide : nI 22 ≤ nI 22), ↓reduceIte, Option.toList_some, Option.toList_none, List.cons_append, List.nil_append]
    | succ f ih =>
      intro k hk
      have h1 : ¬ nI 22 ≤ nI k := nI_ge (by omega) (by omega)
      rw [w130_2]
      simp only [w130_0, w130_1, w130_3, w130_5, w130_8, w130_9, w130_12, w130_13, w130_14, w130_15, w130_18, w130_22, w130_25, w130_27, w130_28, w130_31, w130_32, w130_34, w130_37, w130_38, w130_41, w130_43, w130_44, w130_47, w130_49, w130_51, w130_54, w130_55, w130_56, w130_59, w130_60, w130_61, w130_64, w130_65, w130_66, w130_69, w130_70, w130_73, w130_74, w130_75, w130_76, w130_77, w130_80, w130_81, w130_82, w130_83, ks_118, kt_121, h1, z8, m2, nI_add, in_nI (show k < kl 121 by rw [kl_121]; omega) (by rw [kl_121]; omega), nI_clamp (show k < 2 ^ 31 by omega), zlo_S, ↓reduceIte, Option.toList_some, Option.toList_none, List.cons_append, List.nil_append]
      exact ih (k + 1) (by omega)
  refine Cq_of (Er_of ?_)
  show Wq none 130 0 [some (.ref (118 : Nat)), none] [] ρ _
  have hz : zlo ρ 121 0 = ρ := by
    funext a b
    unfold zlo
    rw [if_neg (by omega)]
  have h0 := key (fun r' σ2 => r' = none ∧ σ2 = bgH ρ) 22 0 (by omega)
  rw [hz] at h0
  have c1 := fun Q => c_copies (Q := Q) (σ := zlo ρ 121 22) (A := 119) (i := 37) (B := 121) (j := 0) (m := 6) kt_119 kt_121 (by rw [kl_119]; omega) (by rw [kl_121]; omega) (by decide) (by rw [kl_119]; omega) (by rw [kl_121]; omega)
  have c2 := fun Q => c_copies (Q := Q) (σ := cpL (zlo ρ 121 22) 119 37 121 0 6) (A := 119) (i := 49) (B := 121) (j := 6) (m := 6) kt_119 kt_121 (by rw [kl_119]; omega) (by rw [kl_121]; omega) (by decide) (by rw [kl_119]; omega) (by rw [kl_121]; omega)
  simp only [w130_0, w130_1, w130_3, w130_5, w130_8, w130_9, w130_12, w130_13, w130_14, w130_15, w130_18, w130_22, w130_25, w130_27, w130_28, w130_31, w130_32, w130_34, w130_37, w130_38, w130_41, w130_43, w130_44, w130_47, w130_49, w130_51, w130_54, w130_55, w130_56, w130_59, w130_60, w130_61, w130_64, w130_65, w130_66, w130_69, w130_70, w130_73, w130_74, w130_75, w130_76, w130_77, w130_80, w130_81, w130_82, w130_83, h0, ↓reduceIte, Option.toList_some, Option.toList_none, List.cons_append, List.nil_append]
  simp only [w130_0, w130_1, w130_3, w130_5, w130_8, w130_9, w130_12, w130_13, w130_14, w130_15, w130_18, w130_21, w130_22, w130_25, w130_27, w130_28, w130_31, w130_32, w130_34, w130_37, w130_38, w130_41, w130_43, w130_44, w130_47, w130_49, w130_51, w130_54, w130_55, w130_56, w130_59, w130_60, w130_61, w130_64, w130_65, w130_66, w130_69, w130_70, w130_73, w130_74, w130_75, w130_76, w130_77, w130_80, w130_81, w130_82, w130_83, ks_118, z8, zc, zd, up_get, m0, m2, m6, c1, c2, kt_124, in_nI (show 0 < kl 124 by rw [kl_124]; omega) (by rw [kl_124]; omega), nI_clamp (show 0 < 2 ^ 31 by omega), in_nI (show 1 < kl 124 by rw [kl_124]; omega) (by rw [kl_124]; omega), nI_clamp (show 1 < 2 ^ 31 by omega), nar_0, (by decide : ¬ (6 = 4)), (by decide : ¬ (6 = 13)), (by decide : ¬ (6 = 15)), (by decide : ¬ (118 = 124)), false_and, and_false, ↓reduceIte, Option.toList_some, Option.toList_none, List.cons_append, List.nil_append]
  exact ⟨trivial, rfl⟩
/-- what the reference has behind a text -/
theorem m_city (hM : MR σ) (hT : mTX L tx σ) : ∃ τ, Er 143 [(.ref (118 : Nat))] σ (some (.int (if (txT L tx).1.2.1 = 0 then nI ((txT L tx).2 0) else (-10) - nI (txT L tx).1.2.1))) τ ∧
    τ 118 9 = .int (nI 0) ∧ (∀ a b, ¬ (a = 118 ∧ (b = 4 ∨ b = 9 ∨ b = 10 ∨ b = 13 ∨ b = 15 ∨ (16 ≤ b ∧ b ≤ 21))) → ¬ (a = 119 ∨ a = 120 ∨ a = 121 ∨ a = 124) → τ a b = σ a b) ∧
    ((txT L tx).1.2.1 = 0 → τ 118 10 = .int (-1) ∧ MC τ (txT L tx).2 ∧ MN τ (bnN (txT L tx).2) ∧ τ 118 4 = .int (nI 0) ∧ τ 118 13 = .int (nI 0) ∧ τ 118 15 = .int (nI 0) ∧ gi τ 124 0 = nI 0 ∧ gi τ 124 1 = nI 0) ∧
    (¬ (txT L tx).1.2.1 = 0 → τ 118 10 = .int (nI (txT L tx).1.2.2) ∧ ∀ a b, ¬ (a = 118 ∧ (b = 9 ∨ b = 10 ∨ (16 ≤ b ∧ b ≤ 21))) → ¬ a = 120 → τ a b = σ a b) := by
  obtain ⟨m0, m1, m2, m3, m5, m6, m8, m11, m12, m14, m22, m23, m24, m25, m29, m30, m31, m32⟩ := id hM
  have hL := hT.1
  have hb0 := skB_le (L := L) (tx := tx) 0
  have z8 : ∀ (k b : Nat), zlo σ 120 k 118 b = σ 118 b := fun k b => zlo_o (by omega)
  have key : ∀ (Q : Option Value → dm_G → Prop) (f k : Nat), k + f = 79 → Wq none 143 2 [some (.ref (118 : Nat)), some (.int (nI k))] [] (zlo σ 120 k) Q = Wq none 143 21 [some (.ref (118 : Nat)), some (.int (nI 79))] [] (zlo σ 120 79) Q := by
    intro Q f
    induction f with
    | zero =>
      intro k hk
      obtain rfl : k = 79 := by omega
      rw [w143_2]
      simp only [w143_0, w143_1, w143_3, w143_5, w143_8, w143_9, w143_12, w143_13, w143_14, w143_15, w143_18, w143_22, w143_23, w143_26, w143_27, w143_28, w143_31, w143_32, w143_33, w143_34, w143_37, w143_38, w143_41, w143_44, w143_45, w143_48, w143_49, w143_52, w143_53, w143_54, w143_57, w143_58, w143_61, w143_64, w143_65, w143_66, w143_69, w143_70, w143_73, w143_74, w143_75, w143_78, w143_81, w143_83, w143_84, w143_87, w143_88, w143_89, w143_90, w143_93, w143_94, w143_95, w143_98, w143_99, w143_101, w143_104, w143_105, w143_108, w143_109, w143_112, w143_113, w143_114, (by decide : nI 79 ≤ nI 79), ↓reduceIte, Option.toList_some, Option.toList_none, List.cons_append, List.nil_append]
    | succ f ih =>
      intro k hk
      have h1 : ¬ nI 79 ≤ nI k := nI_ge (by omega) (by omega)
      rw [w143_2]
      simp only [w143_0, w143_1, w143_3, w143_5, w143_8, w143_9, w143_12, w143_13, w143_14, w143_15, w143_18, w143_22, w143_23, w143_26, w143_27, w143_28, w143_31, w143_32, w143_33, w143_34, w143_37, w143_38, w143_41, w143_44, w143_45, w143_48, w143_49, w143_52, w143_53, w143_54, w143_57, w143_58, w143_61, w143_64, w143_65, w143_66, w143_69, w143_70, w143_73, w143_74, w143_75, w143_78, w143_81, w143_83, w143_84, w143_87, w143_88, w143_89, w143_90, w143_93, w143_94, w143_95, w143_98, w143_99, w143_101, w143_104, w143_105, w143_108, w143_109, w143_112, w143_113, w143_114, ks_118, kt_120, h1, z8, m1, nI_add, in_nI (show k < kl 120 by rw [kl_120]; omega) (by rw [kl_120]; omega), nI_clamp (show k < 2 ^ 31 by omega), zlo_S, ↓reduceIte, Option.toList_some, Option.toList_none, List.cons_append, List.nil_append]
      exact ih (k + 1) (by omega)
  have hz : zlo σ 120 0 = σ := by
    funext a b
    unfold zlo
    rw [if_neg (by omega)]
  generalize hρ0 : dm_up (zlo σ 120 79) 118 10 (.int (-1)) = ρ0
  have fr0 : ∀ a b, ¬ (a = 118 ∧ b = 10) → ¬ a = 120 → ρ0 a b = σ a b := fun a b h1 h2 => by
    rw [← hρ0, up_get, if_neg h1]
    exact zlo_o h2
  have hT0 : mTX L tx ρ0 := mTX_k (fun a b z => fr0 a b (by omega) (by omega)) hT
  have hR0 : RD ρ0 (fun _ => 0) := fun i hi => by
    rw [← hρ0]
    show dm_i (dm_up (zlo σ 120 79) 118 10 (.int (-1)) 120 i) = nI 0
    rw [up_get, if_neg (by omega)]
    unfold zlo
    rw [if_pos ⟨rfl, hi⟩]
    rfl
  have hf10 : ρ0 118 10 = .int (-1) := by rw [← hρ0]; rfl
  obtain ⟨v, τ1, hr, hP⟩ := l_mread (L := L) (tx := tx) 240 0 ρ0 (fun _ => 0) (by omega) (by omega) hT0 hR0 DW_0
  have esw : dm_up (dm_up (zlo σ 120 79) 118 16 (.int (nI 0))) 118 10 (.int (-1)) = dm_up ρ0 118 16 (.int (nI 0)) := by
    rw [← hρ0]
    exact up_sw (by omega)
  have pre : ∀ Q, Wq none 143 0 [some (.ref (118 : Nat)), none] [] σ Q = Wq none 143 64 [some (.ref (118 : Nat)), some (.int v)] [] τ1 Q := by
    intro Q
    have h0 := key Q 79 0 (by omega)
    rw [hz] at h0
    rw [← hr Q]
    simp only [w143_0, w143_1, w143_3, w143_5, w143_8, w143_9, w143_12, w143_13, w143_14, w143_15, w143_18, w143_22, w143_23, w143_26, w143_27, w143_28, w143_31, w143_32, w143_33, w143_34, w143_38, w143_41, w143_44, w143_45, w143_48, w143_49, w143_52, w143_53, w143_54, w143_57, w143_58, w143_61, w143_64, w143_65, w143_66, w143_69, w143_70, w143_73, w143_74, w143_75, w143_78, w143_81, w143_83, w143_84, w143_87, w143_88, w143_89, w143_90, w143_93, w143_94, w143_95, w143_98, w143_99, w143_101, w143_104, w143_105, w143_108, w143_109, w143_112, w143_113, w143_114, h0, ↓reduceIte, Option.toList_some, Option.toList_none, List.cons_append, List.nil_append]
    simp only [w143_0, w143_1, w143_3, w143_5, w143_8, w143_9, w143_12, w143_13, w143_14, w143_15, w143_18, w143_21, w143_22, w143_23, w143_26, w143_27, w143_28, w143_31, w143_32, w143_33, w143_34, w143_38, w143_41, w143_44, w143_45, w143_48, w143_49, w143_52, w143_53, w143_54, w143_57, w143_58, w143_61, w143_64, w143_65, w143_66, w143_69, w143_70, w143_73, w143_74, w143_75, w143_78, w143_81, w143_83, w143_84, w143_87, w143_88, w143_89, w143_90, w143_93, w143_94, w143_95, w143_98, w143_99, w143_101, w143_104, w143_105, w143_108, w143_109, w143_112, w143_113, w143_114, ks_118, esw, c_step0 hT0 (show 0 ≤ 300 by omega), ↓reduceIte, Option.toList_some, Option.toList_none, List.cons_append, List.nil_append]
  have hPt : MPo ρ0 (txT L tx) v τ1 := hP
  by_cases y : (txT L tx).1.2.1 = 0
  · obtain ⟨hv, ρ', b, sg, fg, vl, e, hfr, hRD⟩ := hPt.1 y
    subst hv
    rw [if_pos y]
    generalize hκ : dm_up τ1 118 9 (.int (nI 0)) = κ
    have fk : ∀ a b, ¬ (a = 118 ∧ (b = 9 ∨ b = 10 ∨ (16 ≤ b ∧ b ≤ 21))) → ¬ a = 120 → κ a b = σ a b := fun i j h1 h2 => by
      rw [← hκ, up_get, if_neg (by omega), e, mS_o (by omega), hfr i j h2]
      exact fr0 i j (by omega) h2
    have fk9 : κ 118 9 = .int (nI 0) := by rw [← hκ]; rfl
    have fk10 : κ 118 10 = .int (-1) := by
      rw [← hκ, up_get, if_neg (by omega), e, mS_o (by omega), hfr _ _ (by omega)]
      exact hf10
    have fkr : RD κ (txT L tx).2 := fun i hi => by
      refine Eq.trans ?_ (hRD i hi)
      rw [← hκ, e]
      refine gi_of ?_
      rw [up_get, if_neg (by omega), mS_o (by omega)]
    have k0 := (fk 118 0 (by omega) (by omega)).trans m0
    have k1 := (fk 118 1 (by omega) (by omega)).trans m1
    have cc := fun Q => c_copies (Q := Q) (σ := κ) (A := 120) (i := 0) (B := 119) (j := 0) (m := 79) kt_120 kt_119 (by rw [kl_120]; omega) (by rw [kl_119]; omega) (by decide) (by rw [kl_120]; omega) (by rw [kl_119]; omega)
    generalize hχ : cpL κ 120 0 119 0 79 = χ at cc
    have fx : ∀ a b, ¬ a = 119 → χ a b = κ a b := fun a b h => by rw [← hχ]; exact cpL_o h
    have xc : ∀ i, i < 79 → gi χ 119 i = nI ((txT L tx).2 i) := fun i hi => by
      rw [← hχ]
      refine Eq.trans ?_ (fkr i hi)
      show dm_i (cpL κ 120 0 119 0 79 119 i) = _
      unfold cpL
      rw [if_pos ⟨rfl, by omega, by omega⟩, show 0 + (i - 0) = i by omega]
      rfl
    have x0 : χ 118 0 = (.ref (119 : Nat)) := (fx _ _ (by omega)).trans k0
    have xM : MR χ := MR_k (fun a b z => (fx a b (by omega)).trans (fk a b (by omega) (by omega))) hM
    have bo : ∀ a b, ¬ (a = 118 ∧ (b = 4 ∨ b = 13 ∨ b = 15)) → ¬ (a = 121 ∨ a = 124) → bgH χ a b = χ a b := fun a b h1 h2 => by
      unfold bgH
      rw [up_get, if_neg (by omega), up_get, if_neg (by omega), up_get, if_neg (by omega), up_get, if_neg (by omega), up_get, if_neg (by omega), cpL_o (by omega), cpL_o (by omega), zlo_o (by omega)]
    have x0' : bgH χ 118 0 = (.ref (119 : Nat)) := (bo _ _ (by omega) (by omega)).trans x0
    have xr : gi (bgH χ) 119 0 = nI ((txT L tx).2 0) := (gi_of (bo _ _ (by omega) (by omega))).trans (xc 0 (by omega))
    refine ⟨bgH χ, Er_of ?_, ?_, ?_, fun _ => ⟨?_, ?_, ?_, ?_, ?_, ?_, ?_, ?_⟩, fun w => absurd y w⟩
    · show Wq none 143 0 [some (.ref (118 : Nat)), none] [] σ _
      rw [pre]
      simp only [w143_0, w143_1, w143_3, w143_5, w143_8, w143_9, w143_12, w143_13, w143_14, w143_15, w143_18, w143_21, w143_22, w143_23, w143_26, w143_27, w143_28, w143_31, w143_32, w143_33, w143_34, w143_38, w143_41, w143_44, w143_45, w143_48, w143_49, w143_52, w143_53, w143_54, w143_57, w143_58, w143_61, w143_64, w143_65, w143_66, w143_69, w143_70, w143_73, w143_74, w143_75, w143_78, w143_81, w143_83, w143_84, w143_87, w143_88, w143_89, w143_90, w143_93, w143_94, w143_95, w143_98, w143_99, w143_101, w143_104, w143_105, w143_108, w143_109, w143_112, w143_113, w143_114, ks_118, hκ, nI_ne1, k0, k1, cc, c_begins xM, x0', kt_119, in_nI (show 0 < kl 119 by rw [kl_119]; omega) (by rw [kl_119]; omega), nI_clamp (show 0 < 2 ^ 31 by omega), xr, ↓reduceIte, Option.toList_some, Option.toList_none, List.cons_append, List.nil_append, and_self]
    · exact ((bo _ _ (by omega) (by omega)).trans (fx _ _ (by omega))).trans fk9
    · intro a b h1 h2
      exact ((bo _ _ (by omega) (by omega)).trans (fx _ _ (by omega))).trans (fk _ _ (by omega) (by omega))
    · exact ((bo _ _ (by omega) (by omega)).trans (fx _ _ (by omega))).trans fk10
    · intro i hi
      exact (gi_of (bo _ _ (by omega) (by omega))).trans (xc i hi)
    · intro i hi
      unfold bgH bnN
      refine (gi_of (σ := cpL (cpL (zlo χ 121 22) 119 37 121 0 6) 119 49 121 6 6) (by rw [up_get, if_neg (by omega), up_get, if_neg (by omega), up_get, if_neg (by omega), up_get, if_neg (by omega), up_get, if_neg (by omega)])).trans ?_
      have zx : ∀ j, j < 79 → gi (zlo χ 121 22) 119 j = nI ((txT L tx).2 j) := fun j hj => (gi_of (zlo_o (by omega))).trans (xc j hj)
      have zy : ∀ j, j < 79 → gi (cpL (zlo χ 121 22) 119 37 121 0 6) 119 j = nI ((txT L tx).2 j) := fun j hj => (gi_of (cpL_o (by omega))).trans (zx j hj)
      show dm_i (cpL (cpL (zlo χ 121 22) 119 37 121 0 6) 119 49 121 6 6 121 i) = _
      unfold cpL
      by_cases a1 : i < 6
      · rw [if_pos a1, if_neg (by omega), if_pos ⟨rfl, by omega, by omega⟩]
        show gi (zlo χ 121 22) 119 (37 + (i - 0)) = _
        rw [Nat.sub_zero]
        exact zx _ (by omega)
      · by_cases a2 : i < 12
        · rw [if_neg a1, if_pos a2, if_pos ⟨rfl, by omega, by omega⟩]
          exact zy _ (by omega)
        · rw [if_neg a1, if_neg a2, if_neg (by omega), if_neg (by omega)]
          unfold zlo
          rw [if_pos ⟨rfl, hi⟩]
          rfl
    · rfl
    · rfl
    · rfl
    · rfl
    · rfl
  · obtain ⟨hv, h21, h17, hx, hfr⟩ := hPt.2 y
    subst hv
    rw [if_neg y]
    have e17 : dm_up τ1 118 9 (.int (nI 0)) 118 17 = .int (nI (txT L tx).1.2.2) := h17
    have e21 : dm_up (dm_up τ1 118 9 (.int (nI 0))) 118 10 (.int (nI (txT L tx).1.2.2)) 118 21 = .int (nI (txT L tx).1.2.1) := h21
    have ff : ∀ a b, ¬ (a = 118 ∧ (b = 9 ∨ b = 10 ∨ (16 ≤ b ∧ b ≤ 21))) → ¬ a = 120 → dm_up (dm_up τ1 118 9 (.int (nI 0))) 118 10 (.int (nI (txT L tx).1.2.2)) a b = σ a b := fun a b h1 h2 => by
      rw [up_get, if_neg (by omega), up_get, if_neg (by omega), hfr a b (by omega) h2]
      exact fr0 a b (by omega) h2
    refine ⟨dm_up (dm_up τ1 118 9 (.int (nI 0))) 118 10 (.int (nI (txT L tx).1.2.2)), Er_of ?_, rfl, fun a b h1 h2 => ff a b (by omega) (by omega), fun w => absurd w y, fun _ => ⟨rfl, ff⟩⟩
    show Wq none 143 0 [some (.ref (118 : Nat)), none] [] σ _
    rw [pre]
    simp only [w143_0, w143_1, w143_3, w143_5, w143_8, w143_9, w143_12, w143_13, w143_14, w143_15, w143_18, w143_21, w143_22, w143_23, w143_26, w143_27, w143_28, w143_31, w143_32, w143_33, w143_34, w143_38, w143_41, w143_44, w143_45, w143_48, w143_49, w143_52, w143_53, w143_54, w143_57, w143_58, w143_61, w143_64, w143_65, w143_66, w143_69, w143_70, w143_73, w143_74, w143_75, w143_78, w143_81, w143_83, w143_84, w143_87, w143_88, w143_89, w143_90, w143_93, w143_94, w143_95, w143_98, w143_99, w143_101, w143_104, w143_105, w143_108, w143_109, w143_112, w143_113, w143_114, ks_118, e17, e21, ↓reduceIte, Option.toList_some, Option.toList_none, List.cons_append, List.nil_append, and_self]
end MY
