/-! the text: the reference's city, as a call -/
def bnN (c : Nat → Nat) : Nat → Nat := fun i => if i < 6 then c (37 + i) else if i < 12 then c (49 + (i - 6)) else 0
def bgH (ρ : dm_G) : dm_G := dm_up (dm_up (dm_up (dm_up (dm_up (cpL (cpL (zlo ρ 121 22) 119 37 121 0 6) 119 49 121 6 6) 118 4 (.int (nI 0))) 118 13 (.int (nI 0))) 118 15 (.int (nI 0))) 124 0 (.int (nI 0))) 124 1 (.int (nI 0))
section MY
variable {L : Nat} {tx : Nat → Nat} {σ ρ : dm_G} {rd : Nat → Nat} {Q : Option Value → dm_G → Prop}
theorem cpL_o {A i B j k a b : Nat} (h : ¬ a = B) : cpL σ A i B j k a b = σ a b := if_neg (fun z => h z.1)
theorem nar_0 : vp_nar .boolean (nI 0) = nI 0 := by decide
theorem c_begins (hM : MR ρ) : Cq 131 [(.ref (118 : Nat))] ρ Q = Q none (bgH ρ) := by
  obtain ⟨m0, m1, m2, m3, m5, m6, m8, m11, m12, m14, m22, m23, m24, m25, m29, m30, m31, m32⟩ := id hM
  have z8 : ∀ (k b : Nat), zlo ρ 121 k 118 b = ρ 118 b := fun k b => zlo_o (by omega)
  have zc : ∀ (b : Nat), cpL (zlo ρ 121 22) 119 37 121 0 6 118 b = ρ 118 b := fun b => (cpL_o (by omega)).trans (z8 _ _)
  have zd : ∀ (b : Nat), cpL (cpL (zlo ρ 121 22) 119 37 121 0 6) 119 49 121 6 6 118 b = ρ 118 b := fun b => (cpL_o (by omega)).trans (zc _)
  have key : ∀ (Q : Option Value → dm_G → Prop) (f k : Nat), k + f = 22 → Wq none 131 2 [some (.ref (118 : Nat)), some (.int (nI k))] [] (zlo ρ 121 k) Q = Wq none 131 21 [some (.ref (118 : Nat)), some (.int (nI 22))] [] (zlo ρ 121 22) Q := by
    intro Q f
    induction f with
    | zero =>
      intro k hk
      obtain rfl : k = 22 := by omega
      rw [w131_2]
      simp only [w131_0, w131_1, w131_3, w131_5, w131_8, w131_9, w131_12, w131_13, w131_14, w131_15, w131_18, w131_22, w131_25, w131_27, w131_28, w131_31, w131_32, w131_34, w131_37, w131_38, w131_41, w131_43, w131_44, w131_47, w131_49, w131_51, w131_54, w131_55, w131_56, w131_59, w131_60, w131_61, w131_64, w131_65, w131_66, w131_69, w131_70, w131_73, w131_74, w131_75, w131_76, w131_77, w131_80, w131_81, w131_82, w131_83, (by decide : nI 22 ≤ nI 22), ↓reduceIte, Option.toList_some, Option.toList_none, List.cons_append, List.nil_append]
    | succ f ih =>
      intro k hk
      have h1 : ¬ nI 22 ≤ nI k := nI_ge (by omega) (by omega)
      rw [w131_2]
      simp only [w131_0, w131_1, w131_3, w131_5, w131_8, w131_9, w131_12, w131_13, w131_14, w131_15, w131_18, w131_22, w131_25, w131_27, w131_28, w131_31, w131_32, w131_34, w131_37, w131_38, w131_41, w131_43, w131_44, w131_47, w131_49, w131_51, w131_54, w131_55, w131_56, w131_59, w131_60, w131_61, w131_64, w131_65, w131_66, w131_69, w131_70, w131_73, w131_74, w131_75, w131_76, w131_77, w131_80, w131_81, w131_82, w131_83, ks_118, kt_121, h1, z8, m2, nI_add, in_nI (show k < kl 121 by rw [kl_121]; omega) (by rw [kl_121]; omega), nI_clamp (show k < 2 ^ 31 by omega), zlo_S, ↓reduceIte, Option.toList_some, Option.toList_none, List.cons_append, List.nil_append]
      exact ih (k + 1) (by omega)
  refine Cq_of (Er_of ?_)
  show Wq none 131 0 [some (.ref (118 : Nat)), none] [] ρ _
  have hz : zlo ρ 121 0 = ρ := by
    funext a b
    unfold zlo
    rw [if_neg (by omega)]
  have h0 := key (fun r' σ2 => r' = none ∧ σ2 = bgH ρ) 22 0 (by omega)
  rw [hz] at h0
  have c1 := fun Q => c_copies (Q := Q) (σ := zlo ρ 121 22) (A := 119) (i := 37) (B := 121) (j := 0) (m := 6) kt_119 kt_121 (by rw [kl_119]; omega) (by rw [kl_121]; omega) (by decide) (by rw [kl_119]; omega) (by rw [kl_121]; omega)
  have c2 := fun Q => c_copies (Q := Q) (σ := cpL (zlo ρ 121 22) 119 37 121 0 6) (A := 119) (i := 49) (B := 121) (j := 6) (m := 6) kt_119 kt_121 (by rw [kl_119]; omega) (by rw [kl_121]; omega) (by decide) (by rw [kl_119]; omega) (by rw [kl_121]; omega)
  simp only [w131_0, w131_1, w131_3, w131_5, w131_8, w131_9, w131_12, w131_13, w131_14, w131_15, w131_18, w131_22, w131_25, w131_27, w131_28, w131_31, w131_32, w131_34, w131_37, w131_38, w131_41, w131_43, w131_44, w131_47, w131_49, w131_51, w131_54, w131_55, w131_56, w131_59, w131_60, w131_61, w131_64, w131_65, w131_66, w131_69, w131_70, w131_73, w131_74, w131_75, w131_76, w131_77, w131_80, w131_81, w131_82, w131_83, h0, ↓reduceIte, Option.toList_some, Option.toList_none, List.cons_append, List.nil_append]
  simp only [w131_0, w131_1, w131_3, w131_5, w131_8, w131_9, w131_12, w131_13, w131_14, w131_15, w131_18, w131_21, w131_22, w131_25, w131_27, w131_28, w131_31, w131_32, w131_34, w131_37, w131_38, w131_41, w131_43, w131_44, w131_47, w131_49, w131_51, w131_54, w131_55, w131_56, w131_59, w131_60, w131_61, w131_64, w131_65, w131_66, w131_69, w131_70, w131_73, w131_74, w131_75, w131_76, w131_77, w131_80, w131_81, w131_82, w131_83, ks_118, z8, zc, zd, up_get, m0, m2, m6, c1, c2, kt_124, in_nI (show 0 < kl 124 by rw [kl_124]; omega) (by rw [kl_124]; omega), nI_clamp (show 0 < 2 ^ 31 by omega), in_nI (show 1 < kl 124 by rw [kl_124]; omega) (by rw [kl_124]; omega), nI_clamp (show 1 < 2 ^ 31 by omega), nar_0, (by decide : ¬ (6 = 4)), (by decide : ¬ (6 = 13)), (by decide : ¬ (6 = 15)), (by decide : ¬ (118 = 124)), false_and, and_false, ↓reduceIte, Option.toList_some, Option.toList_none, List.cons_append, List.nil_append]
  exact ⟨trivial, rfl⟩
/-- what the reference has behind a text -/
theorem m_city (hM : MR σ) (hT : mTX L tx σ) : ∃ τ, Er 144 [(.ref (118 : Nat))] σ (some (.int (if (txT L tx).1.2.1 = 0 then nI ((txT L tx).2 0) else (-10) - nI (txT L tx).1.2.1))) τ ∧
    τ 118 9 = .int (nI 0) ∧ (∀ a b, ¬ (a = 118 ∧ (b = 4 ∨ b = 9 ∨ b = 10 ∨ b = 13 ∨ b = 15 ∨ (16 ≤ b ∧ b ≤ 21))) → ¬ (a = 119 ∨ a = 120 ∨ a = 121 ∨ a = 124) → τ a b = σ a b) ∧
    ((txT L tx).1.2.1 = 0 → τ 118 10 = .int (-1) ∧ MC τ (txT L tx).2 ∧ MN τ (bnN (txT L tx).2) ∧ τ 118 4 = .int (nI 0) ∧ τ 118 13 = .int (nI 0) ∧ τ 118 15 = .int (nI 0) ∧ gi τ 124 0 = nI 0 ∧ gi τ 124 1 = nI 0) ∧
    (¬ (txT L tx).1.2.1 = 0 → τ 118 10 = .int (nI (txT L tx).1.2.2) ∧ ∀ a b, ¬ (a = 118 ∧ (b = 9 ∨ b = 10 ∨ (16 ≤ b ∧ b ≤ 21))) → ¬ a = 120 → τ a b = σ a b) := by
  obtain ⟨m0, m1, m2, m3, m5, m6, m8, m11, m12, m14, m22, m23, m24, m25, m29, m30, m31, m32⟩ := id hM
  have hL := hT.1
  have hb0 := skB_le (L := L) (tx := tx) 0
  have z8 : ∀ (k b : Nat), zlo σ 120 k 118 b = σ 118 b := fun k b => zlo_o (by omega)
  have key : ∀ (Q : Option Value → dm_G → Prop) (f k : Nat), k + f = 79 → Wq none 144 2 [some (.ref (118 : Nat)), some (.int (nI k))] [] (zlo σ 120 k) Q = Wq none 144 21 [some (.ref (118 : Nat)), some (.int (nI 79))] [] (zlo σ 120 79) Q := by
    intro Q f
    induction f with
    | zero =>
      intro k hk
      obtain rfl : k = 79 := by omega
      rw [w144_2]
      simp only [w144_0, w144_1, w144_3, w144_5, w144_8, w144_9, w144_12, w144_13, w144_14, w144_15, w144_18, w144_22, w144_23, w144_26, w144_27, w144_28, w144_31, w144_32, w144_33, w144_34, w144_37, w144_38, w144_41, w144_44, w144_45, w144_48, w144_49, w144_52, w144_53, w144_54, w144_57, w144_58, w144_61, w144_64, w144_65, w144_66, w144_69, w144_70, w144_73, w144_74, w144_75, w144_78, w144_81, w144_83, w144_84, w144_87, w144_88, w144_89, w144_90, w144_93, w144_94, w144_95, w144_98, w144_99, w144_101, w144_104, w144_105, w144_108, w144_109, w144_112, w144_113, w144_114, (by decide : nI 79 ≤ nI 79), ↓reduceIte, Option.toList_some, Option.toList_none, List.cons_append, List.nil_append]
    | succ f ih =>
      intro k hk
      have h1 : ¬ nI 79 ≤ nI k := nI_ge (by omega) (by omega)
      rw [w144_2]
      simp only [w144_0, w144_1, w144_3, w144_5, w144_8, w144_9, w144_12, w144_13, w144_14, w144_15, w144_18, w144_22, w144_23, w144_26, w144_27, w144_28, w144_31, w144_32, w144_33, w144_34, w144_37, w144_38, w144_41, w144_44, w144_45, w144_48, w144_49, w144_52, w144_53, w144_54, w144_57, w144_58, w144_61, w144_64, w144_65, w144_66, w144_69, w144_70, w144_73, w144_74, w144_75, w144_78, w144_81, w144_83, w144_84, w144_87, w144_88, w144_89, w144_90, w144_93, w144_94, w144_95, w144_98, w144_99, w144_101, w144_104, w144_105, w144_108, w144_109, w144_112, w144_113, w144_114, ks_118, kt_120, h1, z8, m1, nI_add, in_nI (show k < kl 120 by rw [kl_120]; omega) (by rw [kl_120]; omega), nI_clamp (show k < 2 ^ 31 by omega), zlo_S, ↓reduceIte, Option.toList_some, Option.toList_none, List.cons_append, List.nil_append]
      exact ih (k + 1) (by omega)
  have hz : zlo σ 120 0 = σ := by
    funext a b
    unfold zlo
    rw [if_neg (by omega)]
  generalize hρ0 : dm_up (zlo σ 120 79) 118 10 (.int (-1)) = ρ0
  have fr0 : ∀ a b, ¬ (a = 118 ∧ b = 10) → ¬ a = 120 → ρ0 a b = σ a b := fun a b h1 h2 => by
    rw [← hρ0, up_get, if_neg h1]
    exact zlo_o h2
  have hT0 : mTX L tx ρ0 := mTX_k (fun a b z => fr0 a b (by omega) (by omega)) hT
  have hR0 : RD ρ0 (fun _ => 0) := fun i hi => by
    rw [← hρ0]
    show dm_i (dm_up (zlo σ 120 79) 118 10 (.int (-1)) 120 i) = nI 0
    rw [up_get, if_neg (by omega)]
    unfold zlo
    rw [if_pos ⟨rfl, hi⟩]
    rfl
  have hf10 : ρ0 118 10 = .int (-1) := by rw [← hρ0]; rfl
  obtain ⟨v, τ1, hr, hP⟩ := l_mread (L := L) (tx := tx) 240 0 ρ0 (fun _ => 0) (by omega) (by omega) hT0 hR0 DW_0
  have esw : dm_up (dm_up (zlo σ 120 79) 118 16 (.int (nI 0))) 118 10 (.int (-1)) = dm_up ρ0 118 16 (.int (nI 0)) := by
    rw [← hρ0]
    exact up_sw (by omega)
  have pre : ∀ Q, Wq none 144 0 [some (.ref (118 : Nat)), none] [] σ Q = Wq none 144 64 [some (.ref (118 : Nat)), some (.int v)] [] τ1 Q := by
    intro Q
    have h0 := key Q 79 0 (by omega)
    rw [hz] at h0
    rw [← hr Q]
    simp only [w144_0, w144_1, w144_3, w144_5, w144_8, w144_9, w144_12, w144_13, w144_14, w144_15, w144_18, w144_22, w144_23, w144_26, w144_27, w144_28, w144_31, w144_32, w144_33, w144_34, w144_38, w144_41, w144_44, w144_45, w144_48, w144_49, w144_52, w144_53, w144_54, w144_57, w144_58, w144_61, w144_64, w144_65, w144_66, w144_69, w144_70, w144_73, w144_74, w144_75, w144_78, w144_81, w144_83, w144_84, w144_87, w144_88, w144_89, w144_90, w144_93, w144_94, w144_95, w144_98, w144_99, w144_101, w144_104, w144_105, w144_108, w144_109, w144_112, w144_113, w144_114, h0, ↓reduceIte, Option.toList_some, Option.toList_none, List.cons_append, List.nil_append]
    simp only [w144_0, w144_1, w144_3, w144_5, w144_8, w144_9, w144_12, w144_13, w144_14, w144_15, w144_18, w144_21, w144_22, w144_23, w144_26, w144_27, w144_28, w144_31, w144_32, w144_33, w144_34, w144_38, w144_41, w144_44, w144_45, w144_48, w144_49, w144_52, w144_53, w144_54, w144_57, w144_58, w144_61, w144_64, w144_65, w144_66, w144_69, w144_70, w144_73, w144_74, w144_75, w144_78, w144_81, w144_83, w144_84, w144_87, w144_88, w144_89, w144_90, w144_93, w144_94, w144_95, w144_98, w144_99, w144_101, w144_104, w144_105, w144_108, w144_109, w144_112, w144_113, w144_114, ks_118, esw, c_step0 hT0 (show 0 ≤ 300 by omega), ↓reduceIte, Option.toList_some, Option.toList_none, List.cons_append, List.nil_append]
  have hPt : MPo ρ0 (txT L tx) v τ1 := hP
  by_cases y : (txT L tx).1.2.1 = 0
  · obtain ⟨hv, ρ', b, sg, fg, vl, e, hfr, hRD⟩ := hPt.1 y
    subst hv
    rw [if_pos y]
    generalize hκ : dm_up τ1 118 9 (.int (nI 0)) = κ
    have fk : ∀ a b, ¬ (a = 118 ∧ (b = 9 ∨ b = 10 ∨ (16 ≤ b ∧ b ≤ 21))) → ¬ a = 120 → κ a b = σ a b := fun i j h1 h2 => by
      rw [← hκ, up_get, if_neg (by omega), e, mS_o (by omega), hfr i j h2]
      exact fr0 i j (by omega) h2
    have fk9 : κ 118 9 = .int (nI 0) := by rw [← hκ]; rfl
    have fk10 : κ 118 10 = .int (-1) := by
      rw [← hκ, up_get, if_neg (by omega), e, mS_o (by omega), hfr _ _ (by omega)]
      exact hf10
    have fkr : RD κ (txT L tx).2 := fun i hi => by
      refine Eq.trans ?_ (hRD i hi)
      rw [← hκ, e]
      refine gi_of ?_
      rw [up_get, if_neg (by omega), mS_o (by omega)]
    have k0 := (fk 118 0 (by omega) (by omega)).trans m0
    have k1 := (fk 118 1 (by omega) (by omega)).trans m1
    have cc := fun Q => c_copies (Q := Q) (σ := κ) (A := 120) (i := 0) (B := 119) (j := 0) (m := 79) kt_120 kt_119 (by rw [kl_120]; omega) (by rw [kl_119]; omega) (by decide) (by rw [kl_120]; omega) (by rw [kl_119]; omega)
    generalize hχ : cpL κ 120 0 119 0 79 = χ at cc
    have fx : ∀ a b, ¬ a = 119 → χ a b = κ a b := fun a b h => by rw [← hχ]; exact cpL_o h
    have xc : ∀ i, i < 79 → gi χ 119 i = nI ((txT L tx).2 i) := fun i hi => by
      rw [← hχ]
      refine Eq.trans ?_ (fkr i hi)
      show dm_i (cpL κ 120 0 119 0 79 119 i) = _
      unfold cpL
      rw [if_pos ⟨rfl, by omega, by omega⟩, show 0 + (i - 0) = i by omega]
      rfl
    have x0 : χ 118 0 = (.ref (119 : Nat)) := (fx _ _ (by omega)).trans k0
    have xM : MR χ := MR_k (fun a b z => (fx a b (by omega)).trans (fk a b (by omega) (by omega))) hM
    have bo : ∀ a b, ¬ (a = 118 ∧ (b = 4 ∨ b = 13 ∨ b = 15)) → ¬ (a = 121 ∨ a = 124) → bgH χ a b = χ a b := fun a b h1 h2 => by
      unfold bgH
      rw [up_get, if_neg (by omega), up_get, if_neg (by omega), up_get, if_neg (by omega), up_get, if_neg (by omega), up_get, if_neg (by omega), cpL_o (by omega), cpL_o (by omega), zlo_o (by omega)]
    have x0' : bgH χ 118 0 = (.ref (119 : Nat)) := (bo _ _ (by omega) (by omega)).trans x0
    have xr : gi (bgH χ) 119 0 = nI ((txT L tx).2 0) := (gi_of (bo _ _ (by omega) (by omega))).trans (xc 0 (by omega))
    refine ⟨bgH χ, Er_of ?_, ?_, ?_, fun _ => ⟨?_, ?_, ?_, ?_, ?_, ?_, ?_, ?_⟩, fun w => absurd y w⟩
    · show Wq none 144 0 [some (.ref (118 : Nat)), none] [] σ _
      rw [pre]
      simp only [w144_0, w144_1, w144_3, w144_5, w144_8, w144_9, w144_12, w144_13, w144_14, w144_15, w144_18, w144_21, w144_22, w144_23, w144_26, w144_27, w144_28, w144_31, w144_32, w144_33, w144_34, w144_38, w144_41, w144_44, w144_45, w144_48, w144_49, w144_52, w144_53, w144_54, w144_57, w144_58, w144_61, w144_64, w144_65, w144_66, w144_69, w144_70, w144_73, w144_74, w144_75, w144_78, w144_81, w144_83, w144_84, w144_87, w144_88, w144_89, w144_90, w144_93, w144_94, w144_95, w144_98, w144_99, w144_101, w144_104, w144_105, w144_108, w144_109, w144_112, w144_113, w144_114, ks_118, hκ, nI_ne1, k0, k1, cc, c_begins xM, x0', kt_119, in_nI (show 0 < kl 119 by rw [kl_119]; omega) (by rw [kl_119]; omega), nI_clamp (show 0 < 2 ^ 31 by omega), xr, ↓reduceIte, Option.toList_some, Option.toList_none, List.cons_append, List.nil_append, and_self]
    · exact ((bo _ _ (by omega) (by omega)).trans (fx _ _ (by omega))).trans fk9
    · intro a b h1 h2
      exact ((bo _ _ (by omega) (by omega)).trans (fx _ _ (by omega))).trans (fk _ _ (by omega) (by omega))
    · exact ((bo _ _ (by omega) (by omega)).trans (fx _ _ (by omega))).trans fk10
    · intro i hi
      exact (gi_of (bo _ _ (by omega) (by omega))).trans (xc i hi)
    · intro i hi
      unfold bgH bnN
      refine (gi_of (σ := cpL (cpL (zlo χ 121 22) 119 37 121 0 6) 119 49 121 6 6) (by rw [up_get, if_neg (by omega), up_get, if_neg (by omega), up_get, if_neg (by omega), up_get, if_neg (by omega), up_get, if_neg (by omega)])).trans ?_
      have zx : ∀ j, j < 79 → gi (zlo χ 121 22) 119 j = nI ((txT L tx).2 j) := fun j hj => (gi_of (zlo_o (by omega))).trans (xc j hj)
      have zy : ∀ j, j < 79 → gi (cpL (zlo χ 121 22) 119 37 121 0 6) 119 j = nI ((txT L tx).2 j) := fun j hj => (gi_of (cpL_o (by omega))).trans (zx j hj)
      show dm_i (cpL (cpL (zlo χ 121 22) 119 37 121 0 6) 119 49 121 6 6 121 i) = _
      unfold cpL
      by_cases a1 : i < 6
      · rw [if_pos a1, if_neg (by omega), if_pos ⟨rfl, by omega, by omega⟩]
        show gi (zlo χ 121 22) 119 (37 + (i - 0)) = _
        rw [Nat.sub_zero]
        exact zx _ (by omega)
      · by_cases a2 : i < 12
        · rw [if_neg a1, if_pos a2, if_pos ⟨rfl, by omega, by omega⟩]
          exact zy _ (by omega)
        · rw [if_neg a1, if_neg a2, if_neg (by omega), if_neg (by omega)]
          unfold zlo
          rw [if_pos ⟨rfl, hi⟩]
          rfl
    · rfl
    · rfl
    · rfl
    · rfl
    · rfl
  · obtain ⟨hv, h21, h17, hx, hfr⟩ := hPt.2 y
    subst hv
    rw [if_neg y]
    have e17 : dm_up τ1 118 9 (.int (nI 0)) 118 17 = .int (nI (txT L tx).1.2.2) := h17
    have e21 : dm_up (dm_up τ1 118 9 (.int (nI 0))) 118 10 (.int (nI (txT L tx).1.2.2)) 118 21 = .int (nI (txT L tx).1.2.1) := h21
    have ff : ∀ a b, ¬ (a = 118 ∧ (b = 9 ∨ b = 10 ∨ (16 ≤ b ∧ b ≤ 21))) → ¬ a = 120 → dm_up (dm_up τ1 118 9 (.int (nI 0))) 118 10 (.int (nI (txT L tx).1.2.2)) a b = σ a b := fun a b h1 h2 => by
      rw [up_get, if_neg (by omega), up_get, if_neg (by omega), hfr a b (by omega) h2]
      exact fr0 a b (by omega) h2
    refine ⟨dm_up (dm_up τ1 118 9 (.int (nI 0))) 118 10 (.int (nI (txT L tx).1.2.2)), Er_of ?_, rfl, fun a b h1 h2 => ff a b (by omega) (by omega), fun w => absurd w y, fun _ => ⟨rfl, ff⟩⟩
    show Wq none 144 0 [some (.ref (118 : Nat)), none] [] σ _
    rw [pre]
    simp only [w144_0, w144_1, w144_3, w144_5, w144_8, w144_9, w144_12, w144_13, w144_14, w144_15, w144_18, w144_21, w144_22, w144_23, w144_26, w144_27, w144_28, w144_31, w144_32, w144_33, w144_34, w144_38, w144_41, w144_44, w144_45, w144_48, w144_49, w144_52, w144_53, w144_54, w144_57, w144_58, w144_61, w144_64, w144_65, w144_66, w144_69, w144_70, w144_73, w144_74, w144_75, w144_78, w144_81, w144_83, w144_84, w144_87, w144_88, w144_89, w144_90, w144_93, w144_94, w144_95, w144_98, w144_99, w144_101, w144_104, w144_105, w144_108, w144_109, w144_112, w144_113, w144_114, ks_118, e17, e21, ↓reduceIte, Option.toList_some, Option.toList_none, List.cons_append, List.nil_append, and_self]
end MY
