/-! who leads whom: the reference's walk through all rows -/
section MT2
variable {σ ρ : dm_G} {c n : Nat → Nat} {Q : Option Value → dm_G → Prop}
theorem l_wgh {r : Nat → Nat} (hM : MR σ) (hc : MC σ c) (hn : MN σ n) (hw : WC c) (hwn : WN c n) (hS : rlS (lenM c n) (c 3) (c 2) σ ρ) (hf : feR (lenM c n) (c 2) r (c 3)) (hr : ∀ j, j < c 3 → gi ρ 131 j = nI (r j)) : ∀ (f e : Nat), e + f = c 3 → Wq none 182 9 [some (.ref (118 : Nat)), some (.int (nI (mnR (c 2) r e))), some (.int (nI (lgR (lenM c n) (c 2) r e))), some (.int (nI (coR (prM c n) (c 2) r e))), some (.int (nI e))] [] ρ Q = Wq none 182 100 [some (.ref (118 : Nat)), some (.int (nI (mnR (c 2) r (c 3)))), some (.int (nI (lgR (lenM c n) (c 2) r (c 3)))), some (.int (nI (coR (prM c n) (c 2) r (c 3)))), some (.int (nI (c 3)))] [] ρ Q := by
  have w0 := hw.1
  have w2 := hw.2.1
  have w3 := hw.2.2.1
  have h20 := hwn.2.2.2.1
  have hM' := rlS_M hM hS
  have hc' := rlS_C hc hS
  have hn' := rlS_N hn hS
  obtain ⟨m0, m1, m2, m3, m5, m6, m8, m11, m12, m14, m22, m23, m24, m25, m29, m30, m31, m32⟩ := id hM'
  intro f
  induction f with
  | zero =>
    intro e he
    obtain rfl : e = c 3 := by omega
    rw [w182_9]
    simp only [w182_0, w182_1, w182_2, w182_3, w182_4, w182_5, w182_6, w182_7, w182_11, w182_12, w182_15, w182_16, w182_17, w182_20, w182_21, w182_24, w182_26, w182_27, w182_28, w182_31, w182_32, w182_33, w182_36, w182_39, w182_40, w182_41, w182_44, w182_46, w182_48, w182_49, w182_50, w182_53, w182_55, w182_56, w182_57, w182_58, w182_61, w182_62, w182_63, w182_64, w182_65, w182_68, w182_70, w182_71, w182_72, w182_75, w182_77, w182_79, w182_80, w182_81, w182_84, w182_86, w182_87, w182_88, w182_89, w182_92, w182_93, w182_94, w182_97, w182_101, w182_102, w182_105, w182_108, w182_109, w182_110, w182_113, w182_116, w182_117, w182_118, w182_121, w182_124, w182_125, w182_126, w182_129, w182_132, w182_133, w182_134, w182_137, w182_140, w182_141, w182_144, w182_145, w182_147, w182_149, w182_152, w182_153, w182_154, w182_157, w182_158, w182_159, w182_162, w182_163, w182_164, w182_167, w182_168, w182_171, w182_172, w182_173, w182_176, w182_177, w182_179, w182_182, ks_118, m0, kt_119, in_nI (show 3 < kl 119 by rw [kl_119]; omega) (by rw [kl_119]; omega), nI_clamp (show 3 < 2 ^ 31 by omega), hc' 3 (by omega), nI_le (Nat.le_refl (c 3)) (show c 3 < 2 ^ 31 by omega), ↓reduceIte, Option.toList_some, Option.toList_none, List.cons_append, List.nil_append]
  | succ f ih =>
    intro e he
    have ih := ih (e + 1) (by omega)
    have h1 : ¬ nI (c 3) ≤ nI e := nI_ge (by omega) (by omega)
    obtain ⟨f1, f2⟩ := hf e (by omega)
    have hre := hr e (by omega)
    rw [mnR, lgR, coR] at ih
    rw [w182_9]
    by_cases z : r e < c 2
    · rw [if_pos z, if_pos z, if_pos z] at ih
      obtain ⟨f3, -⟩ := f2 z
      cases hd : lwN c n (r e) e with
      | none => exact absurd hd f3
      | some d =>
        have hd8 := lwN_lt hd
        have h2 : ¬ nI (c 2) ≤ nI (r e) := nI_ge z (by omega)
        have hl := hS.2 e (r e) (by omega) z
        have hlF : lnF (lenM c n) e (r e) = d := by
          unfold lnF
          rw [show lenM c n e (r e) = some d from hd]
        rw [hlF] at hl
        have hlg := lgR_le8 (G := c 2) (r := r) (lenM_8 (n := n) hw) e
        have hpr : prM c n e (r e) = csN c (n 20) (r e) d := by
          unfold prM
          rw [if_pos z, hd]
        rw [show dO (lenM c n e (r e)) = d from by rw [show lenM c n e (r e) = some d from hd]; rfl, hpr] at ih
        simp only [w182_0, w182_1, w182_2, w182_3, w182_4, w182_5, w182_6, w182_7, w182_11, w182_12, w182_15, w182_16, w182_17, w182_20, w182_21, w182_24, w182_26, w182_27, w182_28, w182_31, w182_32, w182_33, w182_36, w182_39, w182_40, w182_41, w182_44, w182_46, w182_48, w182_49, w182_50, w182_53, w182_55, w182_56, w182_57, w182_58, w182_61, w182_62, w182_63, w182_64, w182_65, w182_68, w182_70, w182_71, w182_72, w182_75, w182_77, w182_79, w182_80, w182_81, w182_84, w182_86, w182_87, w182_88, w182_89, w182_92, w182_93, w182_94, w182_97, w182_101, w182_102, w182_105, w182_108, w182_109, w182_110, w182_113, w182_116, w182_117, w182_118, w182_121, w182_124, w182_125, w182_126, w182_129, w182_132, w182_133, w182_134, w182_137, w182_140, w182_141, w182_144, w182_145, w182_147, w182_149, w182_152, w182_153, w182_154, w182_157, w182_158, w182_159, w182_162, w182_163, w182_164, w182_167, w182_168, w182_171, w182_172, w182_173, w182_176, w182_177, w182_179, w182_182, ks_118, m0, m23, m24, kt_119, kt_130, kt_131, in_nI (show 3 < kl 119 by rw [kl_119]; omega) (by rw [kl_119]; omega), nI_clamp (show 3 < 2 ^ 31 by omega), in_nI (show 2 < kl 119 by rw [kl_119]; omega) (by rw [kl_119]; omega), nI_clamp (show 2 < 2 ^ 31 by omega), hc' 3 (by omega), hc' 2 (by omega), in_nI (show e < kl 131 by rw [kl_131]; omega) (by rw [kl_131]; omega), nI_clamp (show e < 2 ^ 31 by omega), hre, h1, h2, pk_mul, nI_add, in_nI (show 6 * e + r e < kl 130 by rw [kl_130]; omega) (by rw [kl_130]; omega), nI_clamp (show 6 * e + r e < 2 ^ 31 by omega), hl, c_greater (show lgR (lenM c n) (c 2) r e < 2 ^ 31 by omega) (show d < 2 ^ 31 by omega), c_cost hM' hc' hn' hw (show n 20 < 2 ^ 31 by omega) z (show d ≤ 8 by omega), ↓reduceIte, Option.toList_some, Option.toList_none, List.cons_append, List.nil_append]
        exact ih
    · rw [if_neg z, if_neg z, if_neg z] at ih
      have h2 : nI (c 2) ≤ nI (r e) := nI_le (by omega) (by omega)
      simp only [w182_0, w182_1, w182_2, w182_3, w182_4, w182_5, w182_6, w182_7, w182_11, w182_12, w182_15, w182_16, w182_17, w182_20, w182_21, w182_24, w182_26, w182_27, w182_28, w182_31, w182_32, w182_33, w182_36, w182_39, w182_40, w182_41, w182_44, w182_46, w182_48, w182_49, w182_50, w182_53, w182_55, w182_56, w182_57, w182_58, w182_61, w182_62, w182_63, w182_64, w182_65, w182_68, w182_70, w182_71, w182_72, w182_75, w182_77, w182_79, w182_80, w182_81, w182_84, w182_86, w182_87, w182_88, w182_89, w182_92, w182_93, w182_94, w182_97, w182_101, w182_102, w182_105, w182_108, w182_109, w182_110, w182_113, w182_116, w182_117, w182_118, w182_121, w182_124, w182_125, w182_126, w182_129, w182_132, w182_133, w182_134, w182_137, w182_140, w182_141, w182_144, w182_145, w182_147, w182_149, w182_152, w182_153, w182_154, w182_157, w182_158, w182_159, w182_162, w182_163, w182_164, w182_167, w182_168, w182_171, w182_172, w182_173, w182_176, w182_177, w182_179, w182_182, ks_118, m0, m24, kt_119, kt_131, in_nI (show 3 < kl 119 by rw [kl_119]; omega) (by rw [kl_119]; omega), nI_clamp (show 3 < 2 ^ 31 by omega), in_nI (show 2 < kl 119 by rw [kl_119]; omega) (by rw [kl_119]; omega), nI_clamp (show 2 < 2 ^ 31 by omega), hc' 3 (by omega), hc' 2 (by omega), in_nI (show e < kl 131 by rw [kl_131]; omega) (by rw [kl_131]; omega), nI_clamp (show e < 2 ^ 31 by omega), hre, h1, h2, nI_add, ↓reduceIte, Option.toList_some, Option.toList_none, List.cons_append, List.nil_append]
      exact ih
theorem mn_le {G : Nat} {r : Nat → Nat} : ∀ e, mnR G r e ≤ e := by
  intro e
  induction e with
  | zero => exact Nat.le_refl _
  | succ e ih =>
    rw [mnR]
    split <;> omega
/-- what is weighed stays small -/
def okB (B : Option ((Nat × Nat × Nat) × (Nat → Nat))) : Prop := ∀ b, B = some b → b.1.1 ≤ 6 ∧ b.1.2.1 ≤ 8 ∧ b.1.2.2 ≤ 4752
theorem okB_w {B : Option ((Nat × Nat × Nat) × (Nat → Nat))} {r : Nat → Nat} (hw : WC c) (h : okB B) : okB (wgF (lenM c n) (prM c n) (c 2) (c 3) B r) := by
  have w3 := hw.2.2.1
  have h1 := mn_le (G := c 2) (r := r) (c 3)
  have h2 := lgR_le8 (G := c 2) (r := r) (lenM_8 (n := n) hw) (c 3)
  have h3 := va_co (G := c 2) (r := r) (prM_p (n := n) hw) (c 3)
  have hk : (keR (lenM c n) (prM c n) (c 2) (c 3) r).1 ≤ 6 ∧ (keR (lenM c n) (prM c n) (c 2) (c 3) r).2.1 ≤ 8 ∧ (keR (lenM c n) (prM c n) (c 2) (c 3) r).2.2 ≤ 4752 := ⟨Nat.le_trans h1 w3, h2, Nat.le_trans h3.2 (by omega)⟩
  intro b hb
  cases B with
  | none => cases hb; exact hk
  | some b0 =>
    rw [wgF_s] at hb
    split at hb
    · cases hb; exact hk
    · cases hb; exact h _ rfl
theorem c_weighs {B : Option ((Nat × Nat × Nat) × (Nat → Nat))} {r : Nat → Nat} (hM : MR σ) (hc : MC σ c) (hn : MN σ n) (hw : WC c) (hwn : WN c n) (hS : rlS (lenM c n) (c 3) (c 2) σ ρ) (hf : feR (lenM c n) (c 2) r (c 3)) (hr : ∀ j, j < c 3 → gi ρ 131 j = nI (r j)) (hB : rlB (c 3) B ρ) (hk : okB B) : ∃ ρ', (∀ Q : Option Value → dm_G → Prop, Cq 182 [(.ref (118 : Nat))] ρ Q = Q none ρ') ∧ rlB (c 3) (wgF (lenM c n) (prM c n) (c 2) (c 3) B r) ρ' ∧ ∀ a b, ¬ (a = 132 ∨ (a = 118 ∧ 25 < b ∧ b < 29)) → ρ' a b = ρ a b := by
  have w3 := hw.2.2.1
  have h1 := mn_le (G := c 2) (r := r) (c 3)
  have h2 := lgR_le8 (G := c 2) (r := r) (lenM_8 (n := n) hw) (c 3)
  have h3 := (va_co (G := c 2) (r := r) (prM_p (n := n) hw) (c 3)).2
  have hloop := fun Q => l_wgh (Q := Q) hM hc hn hw hwn hS hf hr (c 3) 0 (by omega)
  rw [show mnR (c 2) r 0 = 0 from rfl, show lgR (lenM c n) (c 2) r 0 = 0 from rfl, show coR (prM c n) (c 2) r 0 = 0 from rfl] at hloop
  have hkey : keR (lenM c n) (prM c n) (c 2) (c 3) r = (mnR (c 2) r (c 3), lgR (lenM c n) (c 2) r (c 3), coR (prM c n) (c 2) r (c 3)) := rfl
  generalize mnR (c 2) r (c 3) = M at h1 hloop hkey
  generalize lgR (lenM c n) (c 2) r (c 3) = L at h2 hloop hkey
  generalize coR (prM c n) (c 2) r (c 3) = C at h3 hloop hkey
  let ρ1 : dm_G := dm_up (dm_up (dm_up ρ 118 26 (.int (nI M))) 118 27 (.int (nI L))) 118 28 (.int (nI C))
  let ρ2 : dm_G := cpL ρ1 131 0 132 0 6
  have hM' := rlS_M hM hS
  have y1 : ρ1 118 24 = (.ref (131 : Nat)) := by
    obtain ⟨m0, m1, m2, m3, m5, m6, m8, m11, m12, m14, m22, m23, m24, m25, m29, m30, m31, m32⟩ := id hM'
    exact m24
  have y2 : ρ1 118 25 = (.ref (132 : Nat)) := by
    obtain ⟨m0, m1, m2, m3, m5, m6, m8, m11, m12, m14, m22, m23, m24, m25, m29, m30, m31, m32⟩ := id hM'
    exact m25
  have e1 : ∀ Q : Option Value → dm_G → Prop, Cq 130 [(.ref (131 : Nat)), .int (nI 0), (.ref (132 : Nat)), .int (nI 0), .int (nI 6)] ρ1 Q = Q none ρ2 := fun Q => c_copies kt_131 kt_132 (by rw [kl_131]; omega) (by rw [kl_132]; omega) (by decide) (by rw [kl_131]; omega) (by rw [kl_132]; omega)
  have k2 : ∀ a b, ¬ (a = 132 ∨ (a = 118 ∧ 25 < b ∧ b < 29)) → ρ2 a b = ρ a b := fun a b z => by
    show cpL (dm_up (dm_up (dm_up ρ 118 26 _) 118 27 _) 118 28 _) 131 0 132 0 6 a b = _
    unfold cpL
    rw [if_neg (by omega), up_get, if_neg (by omega), up_get, if_neg (by omega), up_get, if_neg (by omega)]
  have hB2 : rlB (c 3) (some (keR (lenM c n) (prM c n) (c 2) (c 3) r, r)) ρ2 := by
    rw [hkey]
    refine ⟨rfl, rfl, rfl, fun j hj => ?_⟩
    show gi (cpL ρ1 131 0 132 0 6) 132 j = nI (r j)
    unfold gi cpL
    rw [if_pos ⟨rfl, Nat.zero_le _, by omega⟩, show 0 + (j - 0) = j by omega]
    show gi (dm_up (dm_up (dm_up ρ 118 26 _) 118 27 _) 118 28 _) 131 j = _
    rw [gi_up, if_neg (by omega), gi_up, if_neg (by omega), gi_up, if_neg (by omega)]
    exact hr j hj
  have yes : (∀ Q : Option Value → dm_G → Prop, Wq none 182 100 [some (.ref (118 : Nat)), some (.int (nI M)), some (.int (nI L)), some (.int (nI C)), some (.int (nI (c 3)))] [] ρ Q = Wq none 182 140 [some (.ref (118 : Nat)), some (.int (nI M)), some (.int (nI L)), some (.int (nI C)), some (.int (nI (c 3)))] [] ρ Q) → ∀ Q : Option Value → dm_G → Prop, Cq 182 [(.ref (118 : Nat))] ρ Q = Q none ρ2 := by
    intro h Q
    refine Cq_of (Er_of ?_)
    show Wq none 182 0 [some (.ref (118 : Nat)), none, none, none, none] [] ρ _
    simp only [w182_0, w182_1, w182_2, w182_3, w182_4, w182_5, w182_6, w182_7, w182_11, w182_12, w182_15, w182_16, w182_17, w182_20, w182_21, w182_24, w182_26, w182_27, w182_28, w182_31, w182_32, w182_33, w182_36, w182_39, w182_40, w182_41, w182_44, w182_46, w182_48, w182_49, w182_50, w182_53, w182_55, w182_56, w182_57, w182_58, w182_61, w182_62, w182_63, w182_64, w182_65, w182_68, w182_70, w182_71, w182_72, w182_75, w182_77, w182_79, w182_80, w182_81, w182_84, w182_86, w182_87, w182_88, w182_89, w182_92, w182_93, w182_94, w182_97, w182_100, w182_101, w182_102, w182_105, w182_108, w182_109, w182_110, w182_113, w182_116, w182_117, w182_118, w182_121, w182_124, w182_125, w182_126, w182_129, w182_132, w182_133, w182_134, w182_137, w182_140, w182_141, w182_144, w182_145, w182_147, w182_149, w182_152, w182_153, w182_154, w182_157, w182_158, w182_159, w182_162, w182_163, w182_164, w182_167, w182_168, w182_171, w182_172, w182_173, w182_176, w182_177, w182_179, w182_182, ↓reduceIte, Option.toList_some, Option.toList_none, List.cons_append, List.nil_append]
    rw [hloop, h]
    simp only [w182_0, w182_1, w182_2, w182_3, w182_4, w182_5, w182_6, w182_7, w182_9, w182_11, w182_12, w182_15, w182_16, w182_17, w182_20, w182_21, w182_24, w182_26, w182_27, w182_28, w182_31, w182_32, w182_33, w182_36, w182_39, w182_40, w182_41, w182_44, w182_46, w182_48, w182_49, w182_50, w182_53, w182_55, w182_56, w182_57, w182_58, w182_61, w182_62, w182_63, w182_64, w182_65, w182_68, w182_70, w182_71, w182_72, w182_75, w182_77, w182_79, w182_80, w182_81, w182_84, w182_86, w182_87, w182_88, w182_89, w182_92, w182_93, w182_94, w182_97, w182_100, w182_101, w182_102, w182_105, w182_108, w182_109, w182_110, w182_113, w182_116, w182_117, w182_118, w182_121, w182_124, w182_125, w182_126, w182_129, w182_132, w182_133, w182_134, w182_137, w182_140, w182_141, w182_144, w182_145, w182_147, w182_149, w182_152, w182_153, w182_154, w182_157, w182_158, w182_159, w182_162, w182_163, w182_164, w182_168, w182_171, w182_172, w182_173, w182_176, w182_177, w182_179, w182_182, ks_118, nI_ne1, ↓reduceIte, Option.toList_some, Option.toList_none, List.cons_append, List.nil_append]
    show Wq none 182 167 [some (.ref (118 : Nat)), some (.int (nI M)), some (.int (nI L)), some (.int (nI C)), some (.int (nI 1))] [] ρ1 _
    simp only [w182_0, w182_1, w182_2, w182_3, w182_4, w182_5, w182_6, w182_7, w182_9, w182_11, w182_12, w182_15, w182_16, w182_17, w182_20, w182_21, w182_24, w182_26, w182_27, w182_28, w182_31, w182_32, w182_33, w182_36, w182_39, w182_40, w182_41, w182_44, w182_46, w182_48, w182_49, w182_50, w182_53, w182_55, w182_56, w182_57, w182_58, w182_61, w182_62, w182_63, w182_64, w182_65, w182_68, w182_70, w182_71, w182_72, w182_75, w182_77, w182_79, w182_80, w182_81, w182_84, w182_86, w182_87, w182_88, w182_89, w182_92, w182_93, w182_94, w182_97, w182_100, w182_101, w182_102, w182_105, w182_108, w182_109, w182_110, w182_113, w182_116, w182_117, w182_118, w182_121, w182_124, w182_125, w182_126, w182_129, w182_132, w182_133, w182_134, w182_137, w182_140, w182_141, w182_144, w182_145, w182_147, w182_149, w182_152, w182_153, w182_154, w182_157, w182_158, w182_159, w182_162, w182_163, w182_164, w182_167, w182_168, w182_171, w182_172, w182_173, w182_176, w182_177, w182_179, w182_182, ks_118, y1, y2, e1, ↓reduceIte, Option.toList_some, Option.toList_none, List.cons_append, List.nil_append, and_self]
  have no : (∀ Q : Option Value → dm_G → Prop, Wq none 182 100 [some (.ref (118 : Nat)), some (.int (nI M)), some (.int (nI L)), some (.int (nI C)), some (.int (nI (c 3)))] [] ρ Q = Wq none 182 144 [some (.ref (118 : Nat)), some (.int (nI M)), some (.int (nI L)), some (.int (nI C)), some (.int (nI (c 3)))] [] ρ Q) → ∀ Q : Option Value → dm_G → Prop, Cq 182 [(.ref (118 : Nat))] ρ Q = Q none ρ := by
    intro h Q
    refine Cq_of (Er_of ?_)
    show Wq none 182 0 [some (.ref (118 : Nat)), none, none, none, none] [] ρ _
    simp only [w182_0, w182_1, w182_2, w182_3, w182_4, w182_5, w182_6, w182_7, w182_11, w182_12, w182_15, w182_16, w182_17, w182_20, w182_21, w182_24, w182_26, w182_27, w182_28, w182_31, w182_32, w182_33, w182_36, w182_39, w182_40, w182_41, w182_44, w182_46, w182_48, w182_49, w182_50, w182_53, w182_55, w182_56, w182_57, w182_58, w182_61, w182_62, w182_63, w182_64, w182_65, w182_68, w182_70, w182_71, w182_72, w182_75, w182_77, w182_79, w182_80, w182_81, w182_84, w182_86, w182_87, w182_88, w182_89, w182_92, w182_93, w182_94, w182_97, w182_100, w182_101, w182_102, w182_105, w182_108, w182_109, w182_110, w182_113, w182_116, w182_117, w182_118, w182_121, w182_124, w182_125, w182_126, w182_129, w182_132, w182_133, w182_134, w182_137, w182_140, w182_141, w182_144, w182_145, w182_147, w182_149, w182_152, w182_153, w182_154, w182_157, w182_158, w182_159, w182_162, w182_163, w182_164, w182_167, w182_168, w182_171, w182_172, w182_173, w182_176, w182_177, w182_179, w182_182, ↓reduceIte, Option.toList_some, Option.toList_none, List.cons_append, List.nil_append]
    rw [hloop, h]
    simp only [w182_0, w182_1, w182_2, w182_3, w182_4, w182_5, w182_6, w182_7, w182_9, w182_11, w182_12, w182_15, w182_16, w182_17, w182_20, w182_21, w182_24, w182_26, w182_27, w182_28, w182_31, w182_32, w182_33, w182_36, w182_39, w182_40, w182_41, w182_44, w182_46, w182_48, w182_49, w182_50, w182_53, w182_55, w182_56, w182_57, w182_58, w182_61, w182_62, w182_63, w182_64, w182_65, w182_68, w182_70, w182_71, w182_72, w182_75, w182_77, w182_79, w182_80, w182_81, w182_84, w182_86, w182_87, w182_88, w182_89, w182_92, w182_93, w182_94, w182_97, w182_100, w182_101, w182_102, w182_105, w182_108, w182_109, w182_110, w182_113, w182_116, w182_117, w182_118, w182_121, w182_124, w182_125, w182_126, w182_129, w182_132, w182_133, w182_134, w182_137, w182_140, w182_141, w182_144, w182_145, w182_147, w182_149, w182_152, w182_153, w182_154, w182_157, w182_158, w182_159, w182_162, w182_163, w182_164, w182_167, w182_168, w182_171, w182_172, w182_173, w182_176, w182_177, w182_179, w182_182, ↓reduceIte, Option.toList_some, Option.toList_none, List.cons_append, List.nil_append, and_self]
  cases B with
  | none =>
    have b26 : ρ 118 26 = .int (-1) := hB
    have hgt : (-1 : Int32) < nI M := by
      rw [Int32.lt_iff_toInt_lt, nI_toInt (by omega), show (-1 : Int32).toInt = -1 from rfl]
      omega
    refine ⟨ρ2, yes (fun Q => ?_), hB2, k2⟩
    simp only [w182_0, w182_1, w182_2, w182_3, w182_4, w182_5, w182_6, w182_7, w182_9, w182_11, w182_12, w182_15, w182_16, w182_17, w182_20, w182_21, w182_24, w182_26, w182_27, w182_28, w182_31, w182_32, w182_33, w182_36, w182_39, w182_40, w182_41, w182_44, w182_46, w182_48, w182_49, w182_50, w182_53, w182_55, w182_56, w182_57, w182_58, w182_61, w182_62, w182_63, w182_64, w182_65, w182_68, w182_70, w182_71, w182_72, w182_75, w182_77, w182_79, w182_80, w182_81, w182_84, w182_86, w182_87, w182_88, w182_89, w182_92, w182_93, w182_94, w182_97, w182_100, w182_101, w182_102, w182_105, w182_108, w182_109, w182_110, w182_113, w182_116, w182_117, w182_118, w182_121, w182_124, w182_125, w182_126, w182_129, w182_132, w182_133, w182_134, w182_137, w182_141, w182_144, w182_145, w182_147, w182_149, w182_152, w182_153, w182_154, w182_157, w182_158, w182_159, w182_162, w182_163, w182_164, w182_167, w182_168, w182_171, w182_172, w182_173, w182_176, w182_177, w182_179, w182_182, ks_118, b26, hgt, ↓reduceIte, Option.toList_some, Option.toList_none, List.cons_append, List.nil_append]
  | some b =>
    obtain ⟨⟨bm, bl, bc⟩, bq⟩ := b
    obtain ⟨b26, b27, b28, b132⟩ := id hB
    dsimp only at b26 b27 b28 b132
    obtain ⟨o1, o2, o3⟩ := hk _ rfl
    dsimp only at o1 o2 o3
    have i1 : nI bm < nI M ↔ bm < M := nI_ltI (by omega) (by omega)
    have i2 : nI M = nI bm ↔ M = bm := nI_eq (by omega) (by omega)
    have i3 : nI L < nI bl ↔ L < bl := nI_ltI (by omega) (by omega)
    have i4 : nI L = nI bl ↔ L = bl := nI_eq (by omega) (by omega)
    have i5 : nI bc ≤ nI C ↔ bc ≤ C := nI_leI (by omega) (by omega)
    rw [wgF_s, hkey]
    by_cases hb : btr (M, L, C) (bm, bl, bc) = true
    · rw [if_pos hb, ← hkey]
      refine ⟨ρ2, yes (fun Q => ?_), hB2, k2⟩
      rw [btr_i] at hb
      dsimp only at hb
      by_cases c1 : bm < M
      · simp only [w182_0, w182_1, w182_2, w182_3, w182_4, w182_5, w182_6, w182_7, w182_9, w182_11, w182_12, w182_15, w182_16, w182_17, w182_20, w182_21, w182_24, w182_26, w182_27, w182_28, w182_31, w182_32, w182_33, w182_36, w182_39, w182_40, w182_41, w182_44, w182_46, w182_48, w182_49, w182_50, w182_53, w182_55, w182_56, w182_57, w182_58, w182_61, w182_62, w182_63, w182_64, w182_65, w182_68, w182_70, w182_71, w182_72, w182_75, w182_77, w182_79, w182_80, w182_81, w182_84, w182_86, w182_87, w182_88, w182_89, w182_92, w182_93, w182_94, w182_97, w182_100, w182_101, w182_102, w182_105, w182_108, w182_109, w182_110, w182_113, w182_116, w182_117, w182_118, w182_121, w182_124, w182_125, w182_126, w182_129, w182_132, w182_133, w182_134, w182_137, w182_141, w182_144, w182_145, w182_147, w182_149, w182_152, w182_153, w182_154, w182_157, w182_158, w182_159, w182_162, w182_163, w182_164, w182_167, w182_168, w182_171, w182_172, w182_173, w182_176, w182_177, w182_179, w182_182, ks_118, b26, i1, c1, ↓reduceIte, Option.toList_some, Option.toList_none, List.cons_append, List.nil_append]
      · have c2 : M = bm := by omega
        subst c2
        have r1 : ¬ nI M < nI M := nI_nlt (Nat.le_refl _) (by omega)
        by_cases c3 : L < bl
        · simp only [w182_0, w182_1, w182_2, w182_3, w182_4, w182_5, w182_6, w182_7, w182_9, w182_11, w182_12, w182_15, w182_16, w182_17, w182_20, w182_21, w182_24, w182_26, w182_27, w182_28, w182_31, w182_32, w182_33, w182_36, w182_39, w182_40, w182_41, w182_44, w182_46, w182_48, w182_49, w182_50, w182_53, w182_55, w182_56, w182_57, w182_58, w182_61, w182_62, w182_63, w182_64, w182_65, w182_68, w182_70, w182_71, w182_72, w182_75, w182_77, w182_79, w182_80, w182_81, w182_84, w182_86, w182_87, w182_88, w182_89, w182_92, w182_93, w182_94, w182_97, w182_100, w182_101, w182_102, w182_105, w182_108, w182_109, w182_110, w182_113, w182_116, w182_117, w182_118, w182_121, w182_124, w182_125, w182_126, w182_129, w182_132, w182_133, w182_134, w182_137, w182_141, w182_145, w182_147, w182_149, w182_152, w182_153, w182_154, w182_157, w182_158, w182_159, w182_162, w182_163, w182_164, w182_167, w182_168, w182_171, w182_172, w182_173, w182_176, w182_177, w182_179, w182_182, ks_118, b26, b27, r1, i3, c3, ↓reduceIte, Option.toList_some, Option.toList_none, List.cons_append, List.nil_append]
        · have c4 : L = bl := by omega
          subst c4
          have r2 : ¬ nI L < nI L := nI_nlt (Nat.le_refl _) (by omega)
          have c5 : ¬ bc ≤ C := by omega
          simp only [w182_0, w182_1, w182_2, w182_3, w182_4, w182_5, w182_6, w182_7, w182_9, w182_11, w182_12, w182_15, w182_16, w182_17, w182_20, w182_21, w182_24, w182_26, w182_27, w182_28, w182_31, w182_32, w182_33, w182_36, w182_39, w182_40, w182_41, w182_44, w182_46, w182_48, w182_49, w182_50, w182_53, w182_55, w182_56, w182_57, w182_58, w182_61, w182_62, w182_63, w182_64, w182_65, w182_68, w182_70, w182_71, w182_72, w182_75, w182_77, w182_79, w182_80, w182_81, w182_84, w182_86, w182_87, w182_88, w182_89, w182_92, w182_93, w182_94, w182_97, w182_100, w182_101, w182_102, w182_105, w182_108, w182_109, w182_110, w182_113, w182_116, w182_117, w182_118, w182_121, w182_124, w182_125, w182_126, w182_129, w182_132, w182_133, w182_134, w182_137, w182_141, w182_145, w182_147, w182_149, w182_152, w182_153, w182_154, w182_157, w182_158, w182_159, w182_162, w182_163, w182_164, w182_167, w182_168, w182_171, w182_172, w182_173, w182_176, w182_177, w182_179, w182_182, ks_118, b26, b27, b28, r1, r2, i5, c5, ↓reduceIte, Option.toList_some, Option.toList_none, List.cons_append, List.nil_append]
    · rw [if_neg hb]
      refine ⟨ρ, no (fun Q => ?_), hB, fun a b _ => rfl⟩
      rw [btr_i] at hb
      dsimp only at hb
      have c1 : ¬ bm < M := by omega
      by_cases c2 : M = bm
      · subst c2
        have r1 : ¬ nI M < nI M := nI_nlt (Nat.le_refl _) (by omega)
        have c3 : ¬ L < bl := by omega
        by_cases c4 : L = bl
        · subst c4
          have r2 : ¬ nI L < nI L := nI_nlt (Nat.le_refl _) (by omega)
          have c5 : bc ≤ C := by omega
          simp only [w182_0, w182_1, w182_2, w182_3, w182_4, w182_5, w182_6, w182_7, w182_9, w182_11, w182_12, w182_15, w182_16, w182_17, w182_20, w182_21, w182_24, w182_26, w182_27, w182_28, w182_31, w182_32, w182_33, w182_36, w182_39, w182_40, w182_41, w182_44, w182_46, w182_48, w182_49, w182_50, w182_53, w182_55, w182_56, w182_57, w182_58, w182_61, w182_62, w182_63, w182_64, w182_65, w182_68, w182_70, w182_71, w182_72, w182_75, w182_77, w182_79, w182_80, w182_81, w182_84, w182_86, w182_87, w182_88, w182_89, w182_92, w182_93, w182_94, w182_97, w182_100, w182_101, w182_102, w182_105, w182_108, w182_109, w182_110, w182_113, w182_116, w182_117, w182_118, w182_121, w182_124, w182_125, w182_126, w182_129, w182_132, w182_133, w182_134, w182_137, w182_141, w182_145, w182_147, w182_149, w182_152, w182_153, w182_154, w182_157, w182_158, w182_159, w182_162, w182_163, w182_164, w182_167, w182_168, w182_171, w182_172, w182_173, w182_176, w182_177, w182_179, w182_182, ks_118, b26, b27, b28, r1, r2, i5, c5, ↓reduceIte, Option.toList_some, Option.toList_none, List.cons_append, List.nil_append]
        · simp only [w182_0, w182_1, w182_2, w182_3, w182_4, w182_5, w182_6, w182_7, w182_9, w182_11, w182_12, w182_15, w182_16, w182_17, w182_20, w182_21, w182_24, w182_26, w182_27, w182_28, w182_31, w182_32, w182_33, w182_36, w182_39, w182_40, w182_41, w182_44, w182_46, w182_48, w182_49, w182_50, w182_53, w182_55, w182_56, w182_57, w182_58, w182_61, w182_62, w182_63, w182_64, w182_65, w182_68, w182_70, w182_71, w182_72, w182_75, w182_77, w182_79, w182_80, w182_81, w182_84, w182_86, w182_87, w182_88, w182_89, w182_92, w182_93, w182_94, w182_97, w182_100, w182_101, w182_102, w182_105, w182_108, w182_109, w182_110, w182_113, w182_116, w182_117, w182_118, w182_121, w182_124, w182_125, w182_126, w182_129, w182_132, w182_133, w182_134, w182_137, w182_141, w182_145, w182_147, w182_149, w182_152, w182_153, w182_154, w182_157, w182_158, w182_159, w182_162, w182_163, w182_164, w182_167, w182_168, w182_171, w182_172, w182_173, w182_176, w182_177, w182_179, w182_182, ks_118, b26, b27, r1, i3, c3, i4, c4, ↓reduceIte, Option.toList_some, Option.toList_none, List.cons_append, List.nil_append]
      · simp only [w182_0, w182_1, w182_2, w182_3, w182_4, w182_5, w182_6, w182_7, w182_9, w182_11, w182_12, w182_15, w182_16, w182_17, w182_20, w182_21, w182_24, w182_26, w182_27, w182_28, w182_31, w182_32, w182_33, w182_36, w182_39, w182_40, w182_41, w182_44, w182_46, w182_48, w182_49, w182_50, w182_53, w182_55, w182_56, w182_57, w182_58, w182_61, w182_62, w182_63, w182_64, w182_65, w182_68, w182_70, w182_71, w182_72, w182_75, w182_77, w182_79, w182_80, w182_81, w182_84, w182_86, w182_87, w182_88, w182_89, w182_92, w182_93, w182_94, w182_97, w182_100, w182_101, w182_102, w182_105, w182_108, w182_109, w182_110, w182_113, w182_116, w182_117, w182_118, w182_121, w182_124, w182_125, w182_126, w182_129, w182_132, w182_133, w182_134, w182_137, w182_141, w182_145, w182_147, w182_149, w182_152, w182_153, w182_154, w182_157, w182_158, w182_159, w182_162, w182_163, w182_164, w182_167, w182_168, w182_171, w182_172, w182_173, w182_176, w182_177, w182_179, w182_182, ks_118, b26, i1, c1, i2, c2, ↓reduceIte, Option.toList_some, Option.toList_none, List.cons_append, List.nil_append]
end MT2
