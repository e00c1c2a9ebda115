/-! who leads whom: the reference's walk through all rows -/
section MT2
variable {σ ρ : dm_G} {c n : Nat → Nat} {Q : Option Value → dm_G → Prop}
theorem l_wgh {r : Nat → Nat} (hM : MR σ) (hc : MC σ c) (hn : MN σ n) (hw : WC c) (hwn : WN c n) (hS : rlS (lenM c n) (c 3) (c 2) σ ρ) (hf : feR (lenM c n) (c 2) r (c 3)) (hr : ∀ j, j < c 3 → gi ρ 131 j = nI (r j)) : ∀ (f e : Nat), e + f = c 3 → Wq none 181 9 [some (.ref (118 : Nat)), some (.int (nI (mnR (c 2) r e))), some (.int (nI (lgR (lenM c n) (c 2) r e))), some (.int (nI (coR (prM c n) (c 2) r e))), some (.int (nI e))] [] ρ Q = Wq none 181 100 [some (.ref (118 : Nat)), some (.int (nI (mnR (c 2) r (c 3)))), some (.int (nI (lgR (lenM c n) (c 2) r (c 3)))), some (.int (nI (coR (prM c n) (c 2) r (c 3)))), some (.int (nI (c 3)))] [] ρ Q := by
  have w0 := hw.1
  have w2 := hw.2.1
  have w3 := hw.2.2.1
  have h20 := hwn.2.2.2.1
  have hM' := rlS_M hM hS
  have hc' := rlS_C hc hS
  have hn' := rlS_N hn hS
  obtain ⟨m0, m1, m2, m3, m5, m6, m8, m11, m12, m14, m22, m23, m24, m25, m29, m30, m31, m32⟩ := id hM'
  intro f
  induction f with
  | zero =>
    intro e he
    obtain rfl : e = c 3 := by omega
    rw [w181_9]
    simp only [w181_0, w181_1, w181_2, w181_3, w181_4, w181_5, w181_6, w181_7, w181_11, w181_12, w181_15, w181_16, w181_17, w181_20, w181_21, w181_24, w181_26, w181_27, w181_28, w181_31, w181_32, w181_33, w181_36, w181_39, w181_40, w181_41, w181_44, w181_46, w181_48, w181_49, w181_50, w181_53, w181_55, w181_56, w181_57, w181_58, w181_61, w181_62, w181_63, w181_64, w181_65, w181_68, w181_70, w181_71, w181_72, w181_75, w181_77, w181_79, w181_80, w181_81, w181_84, w181_86, w181_87, w181_88, w181_89, w181_92, w181_93, w181_94, w181_97, w181_101, w181_102, w181_105, w181_108, w181_109, w181_110, w181_113, w181_116, w181_117, w181_118, w181_121, w181_124, w181_125, w181_126, w181_129, w181_132, w181_133, w181_134, w181_137, w181_140, w181_141, w181_144, w181_145, w181_147, w181_149, w181_152, w181_153, w181_154, w181_157, w181_158, w181_159, w181_162, w181_163, w181_164, w181_167, w181_168, w181_171, w181_172, w181_173, w181_176, w181_177, w181_179, w181_182, ks_118, m0, kt_119, in_nI (show 3 < kl 119 by rw [kl_119]; omega) (by rw [kl_119]; omega), nI_clamp (show 3 < 2 ^ 31 by omega), hc' 3 (by omega), nI_le (Nat.le_refl (c 3)) (show c 3 < 2 ^ 31 by omega), ↓reduceIte, Option.toList_some, Option.toList_none, List.cons_append, List.nil_append]
  | succ f ih =>
    intro e he
    have ih := ih (e + 1) (by omega)
    have h1 : ¬ nI (c 3) ≤ nI e := nI_ge (by omega) (by omega)
    obtain ⟨f1, f2⟩ := hf e (by omega)
    have hre := hr e (by omega)
    rw [mnR, lgR, coR] at ih
    rw [w181_9]
    by_cases z : r e < c 2
    · rw [if_pos z, if_pos z, if_pos z] at ih
      obtain ⟨f3, -⟩ := f2 z
      cases hd : lwN c n (r e) e with
      | none => exact absurd hd f3
      | some d =>
        have hd8 := lwN_lt hd
        have h2 : ¬ nI (c 2) ≤ nI (r e) := nI_ge z (by omega)
        have hl := hS.2 e (r e) (by omega) z
        have hlF : lnF (lenM c n) e (r e) = d := by
          unfold lnF
          rw [show lenM c n e (r e) = some d from hd]
        rw [hlF] at hl
        have hlg := lgR_le8 (G := c 2) (r := r) (lenM_8 (n := n) hw) e
        have hpr : prM c n e (r e) = csN c (n 20) (r e) d := by
          unfold prM
          rw [if_pos z, hd]
        rw [show dO (lenM c n e (r e)) = d from by rw [show lenM c n e (r e) = some d from hd]; rfl, hpr] at ih
        simp only [w181_0, w181_1, w181_2, w181_3, w181_4, w181_5, w181_6, w181_7, w181_11, w181_12, w181_15, w181_16, w181_17, w181_20, w181_21, w181_24, w181_26, w181_27, w181_28, w181_31, w181_32, w181_33, w181_36, w181_39, w181_40, w181_41, w181_44, w181_46, w181_48, w181_49, w181_50, w181_53, w181_55, w181_56, w181_57, w181_58, w181_61, w181_62, w181_63, w181_64, w181_65, w181_68, w181_70, w181_71, w181_72, w181_75, w181_77, w181_79, w181_80, w181_81, w181_84, w181_86, w181_87, w181_88, w181_89, w181_92, w181_93, w181_94, w181_97, w181_101, w181_102, w181_105, w181_108, w181_109, w181_110, w181_113, w181_116, w181_117, w181_118, w181_121, w181_124, w181_125, w181_126, w181_129, w181_132, w181_133, w181_134, w181_137, w181_140, w181_141, w181_144, w181_145, w181_147, w181_149, w181_152, w181_153, w181_154, w181_157, w181_158, w181_159, w181_162, w181_163, w181_164, w181_167, w181_168, w181_171, w181_172, w181_173, w181_176, w181_177, w181_179, w181_182, ks_118, m0, m23, m24, kt_119, kt_130, kt_131, in_nI (show 3 < kl 119 by rw [kl_119]; omega) (by rw [kl_119]; omega), nI_clamp (show 3 < 2 ^ 31 by omega), in_nI (show 2 < kl 119 by rw [kl_119]; omega) (by rw [kl_119]; omega), nI_clamp (show 2 < 2 ^ 31 by omega), hc' 3 (by omega), hc' 2 (by omega), in_nI (show e < kl 131 by rw [kl_131]; omega) (by rw [kl_131]; omega), nI_clamp (show e < 2 ^ 31 by omega), hre, h1, h2, pk_mul, nI_add, in_nI (show 6 * e + r e < kl 130 by rw [kl_130]; omega) (by rw [kl_130]; omega), nI_clamp (show 6 * e + r e < 2 ^ 31 by omega), hl, c_greater (show lgR (lenM c n) (c 2) r e < 2 ^ 31 by omega) (show d < 2 ^ 31 by omega), c_cost hM' hc' hn' hw (show n 20 < 2 ^ 31 by omega) z (show d ≤ 8 by omega), ↓reduceIte, Option.toList_some, Option.toList_none, List.cons_append, List.nil_append]
        exact ih
    · rw [if_neg z, if_neg z, if_neg z] at ih
      have h2 : nI (c 2) ≤ nI (r e) := nI_le (by omega) (by omega)
      simp only [w181_0, w181_1, w181_2, w181_3, w181_4, w181_5, w181_6, w181_7, w181_11, w181_12, w181_15, w181_16, w181_17, w181_20, w181_21, w181_24, w181_26, w181_27, w181_28, w181_31, w181_32, w181_33, w181_36, w181_39, w181_40, w181_41, w181_44, w181_46, w181_48, w181_49, w181_50, w181_53, w181_55, w181_56, w181_57, w181_58, w181_61, w181_62, w181_63, w181_64, w181_65, w181_68, w181_70, w181_71, w181_72, w181_75, w181_77, w181_79, w181_80, w181_81, w181_84, w181_86, w181_87, w181_88, w181_89, w181_92, w181_93, w181_94, w181_97, w181_101, w181_102, w181_105, w181_108, w181_109, w181_110, w181_113, w181_116, w181_117, w181_118, w181_121, w181_124, w181_125, w181_126, w181_129, w181_132, w181_133, w181_134, w181_137, w181_140, w181_141, w181_144, w181_145, w181_147, w181_149, w181_152, w181_153, w181_154, w181_157, w181_158, w181_159, w181_162, w181_163, w181_164, w181_167, w181_168, w181_171, w181_172, w181_173, w181_176, w181_177, w181_179, w181_182, ks_118, m0, m24, kt_119, kt_131, in_nI (show 3 < kl 119 by rw [kl_119]; omega) (by rw [kl_119]; omega), nI_clamp (show 3 < 2 ^ 31 by omega), in_nI (show 2 < kl 119 by rw [kl_119]; omega) (by rw [kl_119]; omega), nI_clamp (show 2 < 2 ^ 31 by omega), hc' 3 (by omega), hc' 2 (by omega), in_nI (show e < kl 131 by rw [kl_131]; omega) (by rw [kl_131]; omega), nI_clamp (show e < 2 ^ 31 by omega), hre, h1, h2, nI_add, ↓reduceIte, Option.toList_some, Option.toList_none, List.cons_append, List.nil_append]
      exact ih
theorem mn_le {G : Nat} {r : Nat → Nat} : ∀ e, mnR G r e ≤ e := by
  intro e
  induction e with
  | zero => exact Nat.le_refl _
  | succ e ih =>
    rw [mnR]
    split <;> omega
/-- what is weighed stays small -/
def okB (B : Option ((Nat × Nat × Nat) × (Nat → Nat))) : Prop := ∀ b, B = some b → b.1.1 ≤ 6 ∧ b.1.2.1 ≤ 8 ∧ b.1.2.2 ≤ 4752
theorem okB_w {B : Option ((Nat × Nat × Nat) × (Nat → Nat))} {r : Nat → Nat} (hw : WC c) (h : okB B) : okB (wgF (lenM c n) (prM c n) (c 2) (c 3) B r) := by
  have w3 := hw.2.2.1
  have h1 := mn_le (G := c 2) (r := r) (c 3)
  have h2 := lgR_le8 (G := c 2) (r := r) (lenM_8 (n := n) hw) (c 3)
  have h3 := va_co (G := c 2) (r := r) (prM_p (n := n) hw) (c 3)
  have hk : (keR (lenM c n) (prM c n) (c 2) (c 3) r).1 ≤ 6 ∧ (keR (lenM c n) (prM c n) (c 2) (c 3) r).2.1 ≤ 8 ∧ (keR (lenM c n) (prM c n) (c 2) (c 3) r).2.2 ≤ 4752 := ⟨Nat.le_trans h1 w3, h2, Nat.le_trans h3.2 (by omega)⟩
  intro b hb
  cases B with
  | none => cases hb; exact hk
  | some b0 =>
    rw [wgF_s] at hb
    split at hb
    · cases hb; exact hk
    · cases hb; exact h _ rfl
theorem c_weighs {B : Option ((Nat × Nat × Nat) × (Nat → Nat))} {r : Nat → Nat} (hM : MR σ) (hc : MC σ c) (hn : MN σ n) (hw : WC c) (hwn : WN c n) (hS : rlS (lenM c n) (c 3) (c 2) σ ρ) (hf : feR (lenM c n) (c 2) r (c 3)) (hr : ∀ j, j < c 3 → gi ρ 131 j = nI (r j)) (hB : rlB (c 3) B ρ) (hk : okB B) : ∃ ρ', (∀ Q : Option Value → dm_G → Prop, Cq 181 [(.ref (118 : Nat))] ρ Q = Q none ρ') ∧ rlB (c 3) (wgF (lenM c n) (prM c n) (c 2) (c 3) B r) ρ' ∧ ∀ a b, ¬ (a = 132 ∨ (a = 118 ∧ 25 < b ∧ b < 29)) → ρ' a b = ρ a b := by
  have w3 := hw.2.2.1
  have h1 := mn_le (G := c 2) (r := r) (c 3)
  have h2 := lgR_le8 (G := c 2) (r := r) (lenM_8 (n := n) hw) (c 3)
  have h3 := (va_co (G := c 2) (r := r) (prM_p (n := n) hw) (c 3)).2
  have hloop := fun Q => l_wgh (Q := Q) hM hc hn hw hwn hS hf hr (c 3) 0 (by omega)
  rw [show mnR (c 2) r 0 = 0 from rfl, show lgR (lenM c n) (c 2) r 0 = 0 from rfl, show coR (prM c n) (c 2) r 0 = 0 from rfl] at hloop
  have hkey : keR (lenM c n) (prM c n) (c 2) (c 3) r = (mnR (c 2) r (c 3), lgR (lenM c n) (c 2) r (c 3), coR (prM c n) (c 2) r (c 3)) := rfl
  generalize mnR (c 2) r (c 3) = M at h1 hloop hkey
  generalize lgR (lenM c n) (c 2) r (c 3) = L at h2 hloop hkey
  generalize coR (prM c n) (c 2) r (c 3) = C at h3 hloop hkey
  let ρ1 : dm_G := dm_up (dm_up (dm_up ρ 118 26 (.int (nI M))) 118 27 (.int (nI L))) 118 28 (.int (nI C))
  let ρ2 : dm_G := cpL ρ1 131 0 132 0 6
  have hM' := rlS_M hM hS
  have y1 : ρ1 118 24 = (.ref (131 : Nat)) := by
    obtain ⟨m0, m1, m2, m3, m5, m6, m8, m11, m12, m14, m22, m23, m24, m25, m29, m30, m31, m32⟩ := id hM'
    exact m24
  have y2 : ρ1 118 25 = (.ref (132 : Nat)) := by
    obtain ⟨m0, m1, m2, m3, m5, m6, m8, m11, m12, m14, m22, m23, m24, m25, m29, m30, m31, m32⟩ := id hM'
    exact m25
  have e1 : ∀ Q : Option Value → dm_G → Prop, Cq 129 [(.ref (131 : Nat)), .int (nI 0), (.ref (132 : Nat)), .int (nI 0), .int (nI 6)] ρ1 Q = Q none ρ2 := fun Q => c_copies kt_131 kt_132 (by rw [kl_131]; omega) (by rw [kl_132]; omega) (by decide) (by rw [kl_131]; omega) (by rw [kl_132]; omega)
  have k2 : ∀ a b, ¬ (a = 132 ∨ (a = 118 ∧ 25 < b ∧ b < 29)) → ρ2 a b = ρ a b := fun a b z => by
    show cpL (dm_up (dm_up (dm_up ρ 118 26 _) 118 27 _) 118 28 _) 131 0 132 0 6 a b = _
    unfold cpL
    rw [if_neg (by omega), up_get, if_neg (by omega), up_get, if_neg (by omega), up_get, if_neg (by omega)]
  have hB2 : rlB (c 3) (some (keR (lenM c n) (prM c n) (c 2) (c 3) r, r)) ρ2 := by
    rw [hkey]
    refine ⟨rfl, rfl, rfl, fun j hj => ?_⟩
    show gi (cpL ρ1 131 0 132 0 6) 132 j = nI (r j)
    unfold gi cpL
    rw [if_pos ⟨rfl, Nat.zero_le _, by omega⟩, show 0 + (j - 0) = j by omega]
    show gi (dm_up (dm_up (dm_up ρ 118 26 _) 118 27 _) 118 28 _) 131 j = _
    rw [gi_up, if_neg (by omega), gi_up, if_neg (by omega), gi_up, if_neg (by omega)]
    exact hr j hj
  have yes : (∀ Q : Option Value → dm_G → Prop, Wq none 181 100 [some (.ref (118 : Nat)), some (.int (nI M)), some (.int (nI L)), some (.int (nI C)), some (.int (nI (c 3)))] [] ρ Q = Wq none 181 140 [some (.ref (118 : Nat)), some (.int (nI M)), some (.int (nI L)), some (.int (nI C)), some (.int (nI (c 3)))] [] ρ Q) → ∀ Q : Option Value → dm_G → Prop, Cq 181 [(.ref (118 : Nat))] ρ Q = Q none ρ2 := by
    intro h Q
    refine Cq_of (Er_of ?_)
    show Wq none 181 0 [some (.ref (118 : Nat)), none, none, none, none] [] ρ _
    simp only [w181_0, w181_1, w181_2, w181_3, w181_4, w181_5, w181_6, w181_7, w181_11, w181_12, w181_15, w181_16, w181_17, w181_20, w181_21, w181_24, w181_26, w181_27, w181_28, w181_31, w181_32, w181_33, w181_36, w181_39, w181_40, w181_41, w181_44, w181_46, w181_48, w181_49, w181_50, w181_53, w181_55, w181_56, w181_57, w181_58, w181_61, w181_62, w181_63, w181_64, w181_65, w181_68, w181_70, w181_71, w181_72, w181_75, w181_77, w181_79, w181_80, w181_81, w181_84, w181_86, w181_87, w181_88, w181_89, w181_92, w181_93, w181_94, w181_97, w181_100, w181_101, w181_102, w181_105, w181_108, w181_109, w181_110, w181_113, w181_116, w181_117, w181_118, w181_121, w181_124, w181_125, w181_126, w181_129, w181_132, w181_133, w181_134, w181_137, w181_140, w181_141, w181_144, w181_145, w181_147, w181_149, w181_152, w181_153, w181_154, w181_157, w181_158, w181_159, w181_162, w181_163, w181_164, w181_167, w181_168, w181_171, w181_172, w181_173, w181_176, w181_177, w181_179, w181_182, ↓reduceIte, Option.toList_some, Option.toList_none, List.cons_append, List.nil_append]
    rw [hloop, h]
    simp only [w181_0, w181_1, w181_2, w181_3, w181_4, w181_5, w181_6, w181_7, w181_9, w181_11, w181_12, w181_15, w181_16, w181_17, w181_20, w181_21, w181_24, w181_26, w181_27, w181_28, w181_31, w181_32, w181_33, w181_36, w181_39, w181_40, w181_41, w181_44, w181_46, w181_48, w181_49, w181_50, w181_53, w181_55, w181_56, w181_57, w181_58, w181_61, w181_62, w181_63, w181_64, w181_65, w181_68, w181_70, w181_71, w181_72, w181_75, w181_77, w181_79, w181_80, w181_81, w181_84, w181_86, w181_87, w181_88, w181_89, w181_92, w181_93, w181_94, w181_97, w181_100, w181_101, w181_102, w181_105, w181_108, w181_109, w181_110, w181_113, w181_116, w181_117, w181_118, w181_121, w181_124, w181_125, w181_126, w181_129, w181_132, w181_133, w181_134, w181_137, w181_140, w181_141, w181_144, w181_145, w181_147, w181_149, w181_152, w181_153, w181_154, w181_157, w181_158, w181_159, w181_162, w181_163, w181_164, w181_168, w181_171, w181_172, w181_173, w181_176, w181_177, w181_179, w181_182, ks_118, nI_ne1, ↓reduceIte, Option.toList_some, Option.toList_none, List.cons_append, List.nil_append]
    show Wq none 181 167 [some (.ref (118 : Nat)), some (.int (nI M)), some (.int (nI L)), some (.int (nI C)), some (.int (nI 1))] [] ρ1 _
    simp only [w181_0, w181_1, w181_2, w181_3, w181_4, w181_5, w181_6, w181_7, w181_9, w181_11, w181_12, w181_15, w181_16, w181_17, w181_20, w181_21, w181_24, w181_26, w181_27, w181_28, w181_31, w181_32, w181_33, w181_36, w181_39, w181_40, w181_41, w181_44, w181_46, w181_48, w181_49, w181_50, w181_53, w181_55, w181_56, w181_57, w181_58, w181_61, w181_62, w181_63, w181_64, w181_65, w181_68, w181_70, w181_71, w181_72, w181_75, w181_77, w181_79, w181_80, w181_81, w181_84, w181_86, w181_87, w181_88, w181_89, w181_92, w181_93, w181_94, w181_97, w181_100, w181_101, w181_102, w181_105, w181_108, w181_109, w181_110, w181_113, w181_116, w181_117, w181_118, w181_121, w181_124, w181_125, w181_126, w181_129, w181_132, w181_133, w181_134, w181_137, w181_140, w181_141, w181_144, w181_145, w181_147, w181_149, w181_152, w181_153, w181_154, w181_157, w181_158, w181_159, w181_162, w181_163, w181_164, w181_167, w181_168, w181_171, w181_172, w181_173, w181_176, w181_177, w181_179, w181_182, ks_118, y1, y2, e1, ↓reduceIte, Option.toList_some, Option.toList_none, List.cons_append, List.nil_append, and_self]
  have no : (∀ Q : Option Value → dm_G → Prop, Wq none 181 100 [some (.ref (118 : Nat)), some (.int (nI M)), some (.int (nI L)), some (.int (nI C)), some (.int (nI (c 3)))] [] ρ Q = Wq none 181 144 [some (.ref (118 : Nat)), some (.int (nI M)), some (.int (nI L)), some (.int (nI C)), some (.int (nI (c 3)))] [] ρ Q) → ∀ Q : Option Value → dm_G → Prop, Cq 181 [(.ref (118 : Nat))] ρ Q = Q none ρ := by
    intro h Q
    refine Cq_of (Er_of ?_)
    show Wq none 181 0 [some (.ref (118 : Nat)), none, none, none, none] [] ρ _
    simp only [w181_0, w181_1, w181_2, w181_3, w181_4, w181_5, w181_6, w181_7, w181_11, w181_12, w181_15, w181_16, w181_17, w181_20, w181_21, w181_24, w181_26, w181_27, w181_28, w181_31, w181_32, w181_33, w181_36, w181_39, w181_40, w181_41, w181_44, w181_46, w181_48, w181_49, w181_50, w181_53, w181_55, w181_56, w181_57, w181_58, w181_61, w181_62, w181_63, w181_64, w181_65, w181_68, w181_70, w181_71, w181_72, w181_75, w181_77, w181_79, w181_80, w181_81, w181_84, w181_86, w181_87, w181_88, w181_89, w181_92, w181_93, w181_94, w181_97, w181_100, w181_101, w181_102, w181_105, w181_108, w181_109, w181_110, w181_113, w181_116, w181_117, w181_118, w181_121, w181_124, w181_125, w181_126, w181_129, w181_132, w181_133, w181_134, w181_137, w181_140, w181_141, w181_144, w181_145, w181_147, w181_149, w181_152, w181_153, w181_154, w181_157, w181_158, w181_159, w181_162, w181_163, w181_164, w181_167, w181_168, w181_171, w181_172, w181_173, w181_176, w181_177, w181_179, w181_182, ↓reduceIte, Option.toList_some, Option.toList_none, List.cons_append, List.nil_append]
    rw [hloop, h]
    simp only [w181_0, w181_1, w181_2, w181_3, w181_4, w181_5, w181_6, w181_7, w181_9, w181_11, w181_12, w181_15, w181_16, w181_17, w181_20, w181_21, w181_24, w181_26, w181_27, w181_28, w181_31, w181_32, w181_33, w181_36, w181_39, w181_40, w181_41, w181_44, w181_46, w181_48, w181_49, w181_50, w181_53, w181_55, w181_56, w181_57, w181_58, w181_61, w181_62, w181_63, w181_64, w181_65, w181_68, w181_70, w181_71, w181_72, w181_75, w181_77, w181_79, w181_80, w181_81, w181_84, w181_86, w181_87, w181_88, w181_89, w181_92, w181_93, w181_94, w181_97, w181_100, w181_101, w181_102, w181_105, w181_108, w181_109, w181_110, w181_113, w181_116, w181_117, w181_118, w181_121, w181_124, w181_125, w181_126, w181_129, w181_132, w181_133, w181_134, w181_137, w181_140, w181_141, w181_144, w181_145, w181_147, w181_149, w181_152, w181_153, w181_154, w181_157, w181_158, w181_159, w181_162, w181_163, w181_164, w181_167, w181_168, w181_171, w181_172, w181_173, w181_176, w181_177, w181_179, w181_182, ↓reduceIte, Option.toList_some, Option.toList_none, List.cons_append, List.nil_append, and_self]
  cases B with
  | none =>
    have b26 : ρ 118 26 = .int (-1) := hB
    have hgt : (-1 : Int32) < nI M := by
      rw [Int32.lt_iff_toInt_lt, nI_toInt (by omega), show (-1 : Int32).toInt = -1 from rfl]
      omega
    refine ⟨ρ2, yes (fun Q => ?_), hB2, k2⟩
    simp only [w181_0, w181_1, w181_2, w181_3, w181_4, w181_5, w181_6, w181_7, w181_9, w181_11, w181_12, w181_15, w181_16, w181_17, w181_20, w181_21, w181_24, w181_26, w181_27, w181_28, w181_31, w181_32, w181_33, w181_36, w181_39, w181_40, w181_41, w181_44, w181_46, w181_48, w181_49, w181_50, w181_53, w181_55, w181_56, w181_57, w181_58, w181_61, w181_62, w181_63, w181_64, w181_65, w181_68, w181_70, w181_71, w181_72, w181_75, w181_77, w181_79, w181_80, w181_81, w181_84, w181_86, w181_87, w181_88, w181_89, w181_92, w181_93, w181_94, w181_97, w181_100, w181_101, w181_102, w181_105, w181_108, w181_109, w181_110, w181_113, w181_116, w181_117, w181_118, w181_121, w181_124, w181_125, w181_126, w181_129, w181_132, w181_133, w181_134, w181_137, w181_141, w181_144, w181_145, w181_147, w181_149, w181_152, w181_153, w181_154, w181_157, w181_158, w181_159, w181_162, w181_163, w181_164, w181_167, w181_168, w181_171, w181_172, w181_173, w181_176, w181_177, w181_179, w181_182, ks_118, b26, hgt, ↓reduceIte, Option.toList_some, Option.toList_none, List.cons_append, List.nil_append]
  | some b =>
    obtain ⟨⟨bm, bl, bc⟩, bq⟩ := b
    obtain ⟨b26, b27, b28, b132⟩ := id hB
    dsimp only at b26 b27 b28 b132
    obtain ⟨o1, o2, o3⟩ := hk _ rfl
    dsimp only at o1 o2 o3
    have i1 : nI bm < nI M ↔ bm < M := nI_ltI (by omega) (by omega)
    have i2 : nI M = nI bm ↔ M = bm := nI_eq (by omega) (by omega)
    have i3 : nI L < nI bl ↔ L < bl := nI_ltI (by omega) (by omega)
    have i4 : nI L = nI bl ↔ L = bl := nI_eq (by omega) (by omega)
    have i5 : nI bc ≤ nI C ↔ bc ≤ C := nI_leI (by omega) (by omega)
    rw [wgF_s, hkey]
    by_cases hb : btr (M, L, C) (bm, bl, bc) = true
    · rw [if_pos hb, ← hkey]
      refine ⟨ρ2, yes (fun Q => ?_), hB2, k2⟩
      rw [btr_i] at hb
      dsimp only at hb
      by_cases c1 : bm < M
      · simp only [w181_0, w181_1, w181_2, w181_3, w181_4, w181_5, w181_6, w181_7, w181_9, w181_11, w181_12, w181_15, w181_16, w181_17, w181_20, w181_21, w181_24, w181_26, w181_27, w181_28, w181_31, w181_32, w181_33, w181_36, w181_39, w181_40, w181_41, w181_44, w181_46, w181_48, w181_49, w181_50, w181_53, w181_55, w181_56, w181_57, w181_58, w181_61, w181_62, w181_63, w181_64, w181_65, w181_68, w181_70, w181_71, w181_72, w181_75, w181_77, w181_79, w181_80, w181_81, w181_84, w181_86, w181_87, w181_88, w181_89, w181_92, w181_93, w181_94, w181_97, w181_100, w181_101, w181_102, w181_105, w181_108, w181_109, w181_110, w181_113, w181_116, w181_117, w181_118, w181_121, w181_124, w181_125, w181_126, w181_129, w181_132, w181_133, w181_134, w181_137, w181_141, w181_144, w181_145, w181_147, w181_149, w181_152, w181_153, w181_154, w181_157, w181_158, w181_159, w181_162, w181_163, w181_164, w181_167, w181_168, w181_171, w181_172, w181_173, w181_176, w181_177, w181_179, w181_182, ks_118, b26, i1, c1, ↓reduceIte, Option.toList_some, Option.toList_none, List.cons_append, List.nil_append]
      · have c2 : M = bm := by omega
        subst c2
        have r1 : ¬ nI M < nI M := nI_nlt (Nat.le_refl _) (by omega)
        by_cases c3 : L < bl
        · simp only [w181_0, w181_1, w181_2, w181_3, w181_4, w181_5, w181_6, w181_7, w181_9, w181_11, w181_12, w181_15, w181_16, w181_17, w181_20, w181_21, w181_24, w181_26, w181_27, w181_28, w181_31, w181_32, w181_33, w181_36, w181_39, w181_40, w181_41, w181_44, w181_46, w181_48, w181_49, w181_50, w181_53, w181_55, w181_56, w181_57, w181_58, w181_61, w181_62, w181_63, w181_64, w181_65, w181_68, w181_70, w181_71, w181_72, w181_75, w181_77, w181_79, w181_80, w181_81, w181_84, w181_86, w181_87, w181_88, w181_89, w181_92, w181_93, w181_94, w181_97, w181_100, w181_101, w181_102, w181_105, w181_108, w181_109, w181_110, w181_113, w181_116, w181_117, w181_118, w181_121, w181_124, w181_125, w181_126, w181_129, w181_132, w181_133, w181_134, w181_137, w181_141, w181_145, w181_147, w181_149, w181_152, w181_153, w181_154, w181_157, w181_158, w181_159, w181_162, w181_163, w181_164, w181_167, w181_168, w181_171, w181_172, w181_173, w181_176, w181_177, w181_179, w181_182, ks_118, b26, b27, r1, i3, c3, ↓reduceIte, Option.toList_some, Option.toList_none, List.cons_append, List.nil_append]
        · have c4 : L = bl := by omega
          subst c4
          have r2 : ¬ nI L < nI L := nI_nlt (Nat.le_refl _) (by omega)
          have c5 : ¬ bc ≤ C := by omega
          simp only [w181_0, w181_1, w181_2, w181_3, w181_4, w181_5, w181_6, w181_7, w181_9, w181_11, w181_12, w181_15, w181_16, w181_17, w181_20, w181_21, w181_24, w181_26, w181_27, w181_28, w181_31, w181_32, w181_33, w181_36, w181_39, w181_40, w181_41, w181_44, w181_46, w181_48, w181_49, w181_50, w181_53, w181_55, w181_56, w181_57, w181_58, w181_61, w181_62, w181_63, w181_64, w181_65, w181_68, w181_70, w181_71, w181_72, w181_75, w181_77, w181_79, w181_80, w181_81, w181_84, w181_86, w181_87, w181_88, w181_89, w181_92, w181_93, w181_94, w181_97, w181_100, w181_101, w181_102, w181_105, w181_108, w181_109, w181_110, w181_113, w181_116, w181_117, w181_118, w181_121, w181_124, w181_125, w181_126, w181_129, w181_132, w181_133, w181_134, w181_137, w181_141, w181_145, w181_147, w181_149, w181_152, w181_153, w181_154, w181_157, w181_158, w181_159, w181_162, w181_163, w181_164, w181_167, w181_168, w181_171, w181_172, w181_173, w181_176, w181_177, w181_179, w181_182, ks_118, b26, b27, b28, r1, r2, i5, c5, ↓reduceIte, Option.toList_some, Option.toList_none, List.cons_append, List.nil_append]
    · rw [if_neg hb]
      refine ⟨ρ, no (fun Q => ?_), hB, fun a b _ => rfl⟩
      rw [btr_i] at hb
      dsimp only at hb
      have c1 : ¬ bm < M := by omega
      by_cases c2 : M = bm
      · subst c2
        have r1 : ¬ nI M < nI M := nI_nlt (Nat.le_refl _) (by omega)
        have c3 : ¬ L < bl := by omega
        by_cases c4 : L = bl
        · subst c4
          have r2 : ¬ nI L < nI L := nI_nlt (Nat.le_refl _) (by omega)
          have c5 : bc ≤ C := by omega
          simp only [w181_0, w181_1, w181_2, w181_3, w181_4, w181_5, w181_6, w181_7, w181_9, w181_11, w181_12, w181_15, w181_16, w181_17, w181_20, w181_21, w181_24, w181_26, w181_27, w181_28, w181_31, w181_32, w181_33, w181_36, w181_39, w181_40, w181_41, w181_44, w181_46, w181_48, w181_49, w181_50, w181_53, w181_55, w181_56, w181_57, w181_58, w181_61, w181_62, w181_63, w181_64, w181_65, w181_68, w181_70, w181_71, w181_72, w181_75, w181_77, w181_79, w181_80, w181_81, w181_84, w181_86, w181_87, w181_88, w181_89, w181_92, w181_93, w181_94, w181_97, w181_100, w181_101, w181_102, w181_105, w181_108, w181_109, w181_110, w181_113, w181_116, w181_117, w181_118, w181_121, w181_124, w181_125, w181_126, w181_129, w181_132, w181_133, w181_134, w181_137, w181_141, w181_145, w181_147, w181_149, w181_152, w181_153, w181_154, w181_157, w181_158, w181_159, w181_162, w181_163, w181_164, w181_167, w181_168, w181_171, w181_172, w181_173, w181_176, w181_177, w181_179, w181_182, ks_118, b26, b27, b28, r1, r2, i5, c5, ↓reduceIte, Option.toList_some, Option.toList_none, List.cons_append, List.nil_append]
        · simp only [w181_0, w181_1, w181_2, w181_3, w181_4, w181_5, w181_6, w181_7, w181_9, w181_11, w181_12, w181_15, w181_16, w181_17, w181_20, w181_21, w181_24, w181_26, w181_27, w181_28, w181_31, w181_32, w181_33, w181_36, w181_39, w181_40, w181_41, w181_44, w181_46, w181_48, w181_49, w181_50, w181_53, w181_55, w181_56, w181_57, w181_58, w181_61, w181_62, w181_63, w181_64, w181_65, w181_68, w181_70, w181_71, w181_72, w181_75, w181_77, w181_79, w181_80, w181_81, w181_84, w181_86, w181_87, w181_88, w181_89, w181_92, w181_93, w181_94, w181_97, w181_100, w181_101, w181_102, w181_105, w181_108, w181_109, w181_110, w181_113, w181_116, w181_117, w181_118, w181_121, w181_124, w181_125, w181_126, w181_129, w181_132, w181_133, w181_134, w181_137, w181_141, w181_145, w181_147, w181_149, w181_152, w181_153, w181_154, w181_157, w181_158, w181_159, w181_162, w181_163, w181_164, w181_167, w181_168, w181_171, w181_172, w181_173, w181_176, w181_177, w181_179, w181_182, ks_118, b26, b27, r1, i3, c3, i4, c4, ↓reduceIte, Option.toList_some, Option.toList_none, List.cons_append, List.nil_append]
      · simp only [w181_0, w181_1, w181_2, w181_3, w181_4, w181_5, w181_6, w181_7, w181_9, w181_11, w181_12, w181_15, w181_16, w181_17, w181_20, w181_21, w181_24, w181_26, w181_27, w181_28, w181_31, w181_32, w181_33, w181_36, w181_39, w181_40, w181_41, w181_44, w181_46, w181_48, w181_49, w181_50, w181_53, w181_55, w181_56, w181_57, w181_58, w181_61, w181_62, w181_63, w181_64, w181_65, w181_68, w181_70, w181_71, w181_72, w181_75, w181_77, w181_79, w181_80, w181_81, w181_84, w181_86, w181_87, w181_88, w181_89, w181_92, w181_93, w181_94, w181_97, w181_100, w181_101, w181_102, w181_105, w181_108, w181_109, w181_110, w181_113, w181_116, w181_117, w181_118, w181_121, w181_124, w181_125, w181_126, w181_129, w181_132, w181_133, w181_134, w181_137, w181_141, w181_145, w181_147, w181_149, w181_152, w181_153, w181_154, w181_157, w181_158, w181_159, w181_162, w181_163, w181_164, w181_167, w181_168, w181_171, w181_172, w181_173, w181_176, w181_177, w181_179, w181_182, ks_118, b26, i1, c1, i2, c2, ↓reduceIte, Option.toList_some, Option.toList_none, List.cons_append, List.nil_append]
end MT2
