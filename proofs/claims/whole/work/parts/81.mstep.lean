/-! the text: the reference's steps -/
def mS (ρ : dm_G) (a b : Nat) (sg : Int32) (fg vl : Nat) : dm_G := dm_up (dm_up (dm_up (dm_up (dm_up ρ 118 16 (.int (nI a))) 118 17 (.int (nI b))) 118 18 (.int sg)) 118 19 (.int (nI fg))) 118 20 (.int (nI vl))
def mTX (L : Nat) (tx : Nat → Nat) (ρ : dm_G) : Prop := L ≤ 240 ∧ (∀ i, i < L → tx i < 256) ∧ ρ 118 9 = .int (nI L) ∧ ρ 118 8 = (.ref (125 : Nat)) ∧ ρ 118 1 = (.ref (120 : Nat)) ∧ ∀ i, i < L → gi ρ 125 i = nI (tx i)
def toA (L : Nat) (tx : Nat → Nat) (p : Nat) : Nat := if isF L tx (skB L tx p) = true then nuE L tx p else if skB L tx p < L then skB L tx p + 1 else skB L tx p
def toS (L : Nat) (tx : Nat → Nat) (p : Nat) : Int32 := if isF L tx (skB L tx p) = true then nI 48 else ltI L tx (skB L tx p)
def toF (L : Nat) (tx : Nat → Nat) (p : Nat) : Nat := if isF L tx (skB L tx p) = true then nuE L tx p - skB L tx p else 0
def toV (L : Nat) (tx : Nat → Nat) (p : Nat) : Nat := if isF L tx (skB L tx p) = true then vR L tx L (skB L tx p) 0 0 else 0
section MT
variable {L : Nat} {tx : Nat → Nat} {ρ : dm_G} {a b fg vl : Nat} {sg : Int32} {Q : Option Value → dm_G → Prop}
theorem m_16 : mS ρ a b sg fg vl 118 16 = .int (nI a) := rfl
theorem m_17 : mS ρ a b sg fg vl 118 17 = .int (nI b) := rfl
theorem m_18 : mS ρ a b sg fg vl 118 18 = .int sg := rfl
theorem m_19 : mS ρ a b sg fg vl 118 19 = .int (nI fg) := rfl
theorem m_20 : mS ρ a b sg fg vl 118 20 = .int (nI vl) := rfl
theorem mS_o {i j : Nat} (h : ¬ (i = 118 ∧ 16 ≤ j ∧ j ≤ 20)) : mS ρ a b sg fg vl i j = ρ i j := by
  unfold mS
  rw [up_get, if_neg (by omega), up_get, if_neg (by omega), up_get, if_neg (by omega), up_get, if_neg (by omega), up_get, if_neg (by omega)]
theorem mS_gi {i j : Nat} (h : ¬ i = 118) : gi (mS ρ a b sg fg vl) i j = gi ρ i j := gi_of (mS_o (by omega))
theorem up_up {k j : Nat} {v w : Value} : dm_up (dm_up ρ k j v) k j w = dm_up ρ k j w := by
  funext x y
  simp only [up_get]
  by_cases h : x = k ∧ y = j
  · rw [if_pos h, if_pos h]
  · rw [if_neg h, if_neg h, if_neg h]
theorem up_sw {k j k2 j2 : Nat} {v w : Value} (h : ¬ (k = k2 ∧ j = j2)) : dm_up (dm_up ρ k j v) k2 j2 w = dm_up (dm_up ρ k2 j2 w) k j v := by
  funext x y
  simp only [up_get]
  by_cases h1 : x = k ∧ y = j
  · rw [if_pos h1, if_neg (by omega), if_pos h1]
  · rw [if_neg h1, if_neg h1]
theorem mS_at {a' : Nat} : dm_up (mS ρ a b sg fg vl) 118 16 (.int (nI a')) = mS ρ a' b sg fg vl := by
  unfold mS
  rw [up_sw (k := 118) (j := 20) (k2 := 118) (j2 := 16) (by omega), up_sw (k := 118) (j := 19) (k2 := 118) (j2 := 16) (by omega), up_sw (k := 118) (j := 18) (k2 := 118) (j2 := 16) (by omega), up_sw (k := 118) (j := 17) (k2 := 118) (j2 := 16) (by omega), up_up]
theorem mS_bg {b' : Nat} : dm_up (mS ρ a b sg fg vl) 118 17 (.int (nI b')) = mS ρ a b' sg fg vl := by
  unfold mS
  rw [up_sw (k := 118) (j := 20) (k2 := 118) (j2 := 17) (by omega), up_sw (k := 118) (j := 19) (k2 := 118) (j2 := 17) (by omega), up_sw (k := 118) (j := 18) (k2 := 118) (j2 := 17) (by omega), up_up]
theorem mS_sg {sg' : Int32} : dm_up (mS ρ a b sg fg vl) 118 18 (.int sg') = mS ρ a b sg' fg vl := by
  unfold mS
  rw [up_sw (k := 118) (j := 20) (k2 := 118) (j2 := 18) (by omega), up_sw (k := 118) (j := 19) (k2 := 118) (j2 := 18) (by omega), up_up]
theorem mS_fg {fg' : Nat} : dm_up (mS ρ a b sg fg vl) 118 19 (.int (nI fg')) = mS ρ a b sg fg' vl := by
  unfold mS
  rw [up_sw (k := 118) (j := 20) (k2 := 118) (j2 := 19) (by omega), up_up]
theorem mS_vl {vl' : Nat} : dm_up (mS ρ a b sg fg vl) 118 20 (.int (nI vl')) = mS ρ a b sg fg vl' := by
  unfold mS
  rw [up_up]
theorem mS_up {i j : Nat} {v : Value} (h : ¬ (i = 118 ∧ 16 ≤ j ∧ j ≤ 20)) : dm_up (mS ρ a b sg fg vl) i j v = mS (dm_up ρ i j v) a b sg fg vl := by
  unfold mS
  rw [up_sw (by omega), up_sw (k := 118) (j := 19) (by omega), up_sw (k := 118) (j := 18) (by omega), up_sw (k := 118) (j := 17) (by omega), up_sw (k := 118) (j := 16) (by omega)]
theorem c_mhere {p : Nat} (hT : mTX L tx ρ) (hp : p < 2 ^ 30) : Cq 132 [(.ref (118 : Nat))] (mS ρ p b sg fg vl) Q = Q (some (.int (ltI L tx p))) (mS ρ p b sg fg vl) := by
  obtain ⟨hL, ht, h9, h8, h1, hx⟩ := hT
  have y9 : mS ρ p b sg fg vl 118 9 = .int (nI L) := (mS_o (by omega)).trans h9
  have y8 : mS ρ p b sg fg vl 118 8 = (.ref (125 : Nat)) := (mS_o (by omega)).trans h8
  refine Cq_of (Er_of ?_)
  show Wq none 132 0 [some (.ref (118 : Nat))] [] _ _
  unfold ltI
  by_cases z : p < L
  · have n1 : ¬ nI L ≤ nI p := nI_ge z (by omega)
    have y3 : gi (mS ρ p b sg fg vl) 125 p = nI (tx p) := (mS_gi (by omega)).trans (hx p z)
    simp only [w132_0, w132_1, w132_4, w132_5, w132_8, w132_11, w132_12, w132_15, w132_16, w132_19, w132_20, w132_23, w132_24, ks_118, m_16, y8, y9, n1, kt_125, in_nI (show p < kl 125 by rw [kl_125]; omega) (by rw [kl_125]; omega), nI_clamp (show p < 2 ^ 31 by omega), y3, z, ↓reduceIte, Option.toList_some, Option.toList_none, List.cons_append, List.nil_append, and_self]
  · have n1 : nI L ≤ nI p := nI_le (by omega) (by omega)
    simp only [w132_0, w132_1, w132_4, w132_5, w132_8, w132_11, w132_12, w132_15, w132_16, w132_19, w132_20, w132_23, w132_24, ks_118, m_16, y9, n1, z, ↓reduceIte, Option.toList_some, Option.toList_none, List.cons_append, List.nil_append, and_self]
theorem in_fig {p : Nat} (ht : ∀ i, i < L → tx i < 256) : (lN 48 ≤ (ltI L tx p).toInt64 ∧ (ltI L tx p).toInt64 ≤ lN 57) ↔ isF L tx p = true := by
  rw [in_ok2 (by omega) (by omega)]
  unfold ltI isF
  by_cases z : p < L
  · have := ht p z
    rw [if_pos z]
    simp only [z, decide_true, Bool.true_and, Bool.and_eq_true, decide_eq_true_eq]
    constructor
    · rintro ⟨j, h1, h2, h3⟩
      have := nI_inj (by omega) (by omega) h3
      omega
    · intro h
      exact ⟨tx p, h.1, h.2, rfl⟩
  · rw [if_neg z]
    simp only [z, decide_false, Bool.false_and, Bool.false_eq_true, iff_false]
    rintro ⟨j, h1, h2, h3⟩
    exact nI_m1 (show j < 2 ^ 31 by omega) h3
theorem l_st1 (hT : mTX L tx ρ) : ∀ (f p : Nat), L ≤ p + f → p + f < 2 ^ 29 → Wq none 133 0 [some (.ref (118 : Nat))] [] (mS ρ p b sg fg vl) Q = Wq none 133 22 [some (.ref (118 : Nat))] [] (mS ρ (runN (isB L tx) f p) b sg fg vl) Q := by
  intro f
  induction f with
  | zero =>
    intro p h1 h2
    have z : ¬ ltI L tx p = nI 32 := fun z => by
      have := isB_L p ((lt_32 hT.2.1).mp z)
      omega
    rw [w133_0]
    simp only [w133_1, w133_4, w133_6, w133_9, w133_10, w133_10i, w133_11, w133_14, w133_15, w133_16, w133_19, w133_23, w133_24, w133_27, w133_30, w133_31, w133_32, w133_35, w133_38, w133_39, w133_40, w133_43, w133_44, w133_45, w133_48, w133_49, w133_52, w133_53, w133_56, w133_59, w133_62, w133_65, w133_66, w133_66i, w133_67, w133_70, w133_71, w133_74, w133_77, w133_78, w133_81, w133_82, w133_83, w133_86, w133_87, w133_88, w133_90, w133_93, w133_94, w133_97, w133_98, w133_101, w133_104, w133_107, w133_110, w133_111, w133_112, w133_115, w133_116, w133_119, w133_121, w133_122, w133_125, w133_126, w133_127, w133_130, w133_131, w133_133, w133_134, w133_137, w133_138, w133_141, w133_144, w133_145, w133_145i, w133_146, w133_149, w133_150, w133_151, w133_154, w133_155, w133_155i, w133_156, w133_159, w133_160, w133_161, w133_164, w133_167, ks_118, c_mhere hT (show p < 2 ^ 30 by omega), z, ↓reduceIte, Option.toList_some, Option.toList_none, List.cons_append, List.nil_append]
    rfl
  | succ f ih =>
    intro p h1 h2
    rw [w133_0, runS]
    by_cases z : isB L tx p = true
    · rw [if_pos z]
      have y := (lt_32 hT.2.1).mpr z
      simp only [w133_1, w133_4, w133_6, w133_9, w133_10, w133_10i, w133_11, w133_14, w133_15, w133_16, w133_19, w133_23, w133_24, w133_27, w133_30, w133_31, w133_32, w133_35, w133_38, w133_39, w133_40, w133_43, w133_44, w133_45, w133_48, w133_49, w133_52, w133_53, w133_56, w133_59, w133_62, w133_65, w133_66, w133_66i, w133_67, w133_70, w133_71, w133_74, w133_77, w133_78, w133_81, w133_82, w133_83, w133_86, w133_87, w133_88, w133_90, w133_93, w133_94, w133_97, w133_98, w133_101, w133_104, w133_107, w133_110, w133_111, w133_112, w133_115, w133_116, w133_119, w133_121, w133_122, w133_125, w133_126, w133_127, w133_130, w133_131, w133_133, w133_134, w133_137, w133_138, w133_141, w133_144, w133_145, w133_145i, w133_146, w133_149, w133_150, w133_151, w133_154, w133_155, w133_155i, w133_156, w133_159, w133_160, w133_161, w133_164, w133_167, ks_118, c_mhere hT (show p < 2 ^ 30 by omega), y, m_16, nI_add, mS_at, ↓reduceIte, Option.toList_some, Option.toList_none, List.cons_append, List.nil_append]
      exact ih (p + 1) (by omega) (by omega)
    · rw [if_neg z]
      have y : ¬ ltI L tx p = nI 32 := fun w => z ((lt_32 hT.2.1).mp w)
      simp only [w133_1, w133_4, w133_6, w133_9, w133_10, w133_10i, w133_11, w133_14, w133_15, w133_16, w133_19, w133_23, w133_24, w133_27, w133_30, w133_31, w133_32, w133_35, w133_38, w133_39, w133_40, w133_43, w133_44, w133_45, w133_48, w133_49, w133_52, w133_53, w133_56, w133_59, w133_62, w133_65, w133_66, w133_66i, w133_67, w133_70, w133_71, w133_74, w133_77, w133_78, w133_81, w133_82, w133_83, w133_86, w133_87, w133_88, w133_90, w133_93, w133_94, w133_97, w133_98, w133_101, w133_104, w133_107, w133_110, w133_111, w133_112, w133_115, w133_116, w133_119, w133_121, w133_122, w133_125, w133_126, w133_127, w133_130, w133_131, w133_133, w133_134, w133_137, w133_138, w133_141, w133_144, w133_145, w133_145i, w133_146, w133_149, w133_150, w133_151, w133_154, w133_155, w133_155i, w133_156, w133_159, w133_160, w133_161, w133_164, w133_167, ks_118, c_mhere hT (show p < 2 ^ 30 by omega), y, ↓reduceIte, Option.toList_some, Option.toList_none, List.cons_append, List.nil_append]
theorem l_st2 (hT : mTX L tx ρ) : ∀ (f p k v : Nat), L ≤ p + f → p + f < 2 ^ 29 → k + f < 2 ^ 29 → Wq none 133 93 [some (.ref (118 : Nat))] [] (mS ρ p b sg k v) Q = Q none (mS ρ (runN (isF L tx) f p) b sg (k + (runN (isF L tx) f p - p)) (vR L tx f p k v)) := by
  intro f
  induction f with
  | zero =>
    intro p k v h1 h2 h3
    have z : ¬ isF L tx p = true := fun z => by
      have := isF_L p z
      omega
    rw [w133_93]
    simp only [w133_0, w133_1, w133_4, w133_6, w133_9, w133_10, w133_10i, w133_11, w133_14, w133_15, w133_16, w133_19, w133_22, w133_23, w133_24, w133_27, w133_30, w133_31, w133_32, w133_35, w133_38, w133_39, w133_40, w133_43, w133_44, w133_45, w133_48, w133_49, w133_52, w133_53, w133_56, w133_59, w133_62, w133_65, w133_66, w133_66i, w133_67, w133_70, w133_71, w133_74, w133_77, w133_78, w133_81, w133_82, w133_83, w133_86, w133_87, w133_88, w133_90, w133_94, w133_97, w133_98, w133_101, w133_104, w133_107, w133_110, w133_111, w133_112, w133_115, w133_116, w133_119, w133_121, w133_122, w133_125, w133_126, w133_127, w133_130, w133_131, w133_133, w133_134, w133_137, w133_138, w133_141, w133_144, w133_145, w133_145i, w133_146, w133_149, w133_150, w133_151, w133_154, w133_155, w133_155i, w133_156, w133_159, w133_160, w133_161, w133_164, w133_167, ks_118, c_mhere hT (show p < 2 ^ 30 by omega), c_in, in_fig hT.2.1, z, ↓reduceIte, Option.toList_some, Option.toList_none, List.cons_append, List.nil_append, Bool.false_eq_true]
    show _ = Q none (mS ρ p b sg (k + (p - p)) v)
    rw [Nat.sub_self, Nat.add_zero]
  | succ f ih =>
    intro p k v h1 h2 h3
    rw [w133_93, runS, vRS]
    by_cases z : isF L tx p = true
    · rw [if_pos z, if_pos z]
      have hz : p < L ∧ 48 ≤ tx p ∧ tx p ≤ 57 := by
        have z' := z
        unfold isF at z'
        simpa only [Bool.and_eq_true, decide_eq_true_eq] using z'
      have el : ltI L tx p = nI (tx p) := if_pos hz.1
      have hle := (run_le (L := L) (q := isF L tx) isF_L f (p + 1)).1
      have ek : k + 1 + (runN (isF L tx) f (p + 1) - (p + 1)) = k + (runN (isF L tx) f (p + 1) - p) := by omega
      have hin := (in_fig (p := p) hT.2.1).mpr z
      rw [el] at hin
      by_cases y : k < 3
      · have y1 : ¬ nI 3 ≤ nI k := nI_ge y (by omega)
        rw [if_pos y]
        simp only [w133_0, w133_1, w133_4, w133_6, w133_9, w133_10, w133_10i, w133_11, w133_14, w133_15, w133_16, w133_19, w133_22, w133_23, w133_24, w133_27, w133_30, w133_31, w133_32, w133_35, w133_38, w133_39, w133_40, w133_43, w133_44, w133_45, w133_48, w133_49, w133_52, w133_53, w133_56, w133_59, w133_62, w133_65, w133_66, w133_66i, w133_67, w133_70, w133_71, w133_74, w133_77, w133_78, w133_81, w133_82, w133_83, w133_86, w133_87, w133_88, w133_90, w133_94, w133_97, w133_98, w133_101, w133_104, w133_107, w133_110, w133_111, w133_112, w133_115, w133_116, w133_119, w133_121, w133_122, w133_125, w133_126, w133_127, w133_130, w133_131, w133_133, w133_134, w133_137, w133_138, w133_141, w133_144, w133_145, w133_145i, w133_146, w133_149, w133_150, w133_151, w133_154, w133_155, w133_155i, w133_156, w133_159, w133_160, w133_161, w133_164, w133_167, ks_118, c_mhere hT (show p < 2 ^ 30 by omega), el, c_in, hin, nI_ne1, m_16, m_19, m_20, y1, pk_mul, nI_add, pk_sub (show 48 ≤ 10 * v + tx p by omega), mS_vl, mS_fg, mS_at, ↓reduceIte, Option.toList_some, Option.toList_none, List.cons_append, List.nil_append, and_self]
        rw [ih (p + 1) (k + 1) _ (by omega) (by omega) (by omega), ek]
      · have y1 : nI 3 ≤ nI k := nI_le (by omega) (by omega)
        rw [if_neg y]
        simp only [w133_0, w133_1, w133_4, w133_6, w133_9, w133_10, w133_10i, w133_11, w133_14, w133_15, w133_16, w133_19, w133_22, w133_23, w133_24, w133_27, w133_30, w133_31, w133_32, w133_35, w133_38, w133_39, w133_40, w133_43, w133_44, w133_45, w133_48, w133_49, w133_52, w133_53, w133_56, w133_59, w133_62, w133_65, w133_66, w133_66i, w133_67, w133_70, w133_71, w133_74, w133_77, w133_78, w133_81, w133_82, w133_83, w133_86, w133_87, w133_88, w133_90, w133_94, w133_97, w133_98, w133_101, w133_104, w133_107, w133_110, w133_111, w133_112, w133_115, w133_116, w133_119, w133_121, w133_122, w133_125, w133_126, w133_127, w133_130, w133_131, w133_133, w133_134, w133_137, w133_138, w133_141, w133_144, w133_145, w133_145i, w133_146, w133_149, w133_150, w133_151, w133_154, w133_155, w133_155i, w133_156, w133_159, w133_160, w133_161, w133_164, w133_167, ks_118, c_mhere hT (show p < 2 ^ 30 by omega), el, c_in, hin, nI_ne1, m_16, m_19, m_20, y1, nI_add, mS_vl, mS_fg, mS_at, ↓reduceIte, Option.toList_some, Option.toList_none, List.cons_append, List.nil_append, and_self]
        rw [ih (p + 1) (k + 1) _ (by omega) (by omega) (by omega), ek]
    · rw [if_neg z, if_neg z]
      simp only [w133_0, w133_1, w133_4, w133_6, w133_9, w133_10, w133_10i, w133_11, w133_14, w133_15, w133_16, w133_19, w133_22, w133_23, w133_24, w133_27, w133_30, w133_31, w133_32, w133_35, w133_38, w133_39, w133_40, w133_43, w133_44, w133_45, w133_48, w133_49, w133_52, w133_53, w133_56, w133_59, w133_62, w133_65, w133_66, w133_66i, w133_67, w133_70, w133_71, w133_74, w133_77, w133_78, w133_81, w133_82, w133_83, w133_86, w133_87, w133_88, w133_90, w133_94, w133_97, w133_98, w133_101, w133_104, w133_107, w133_110, w133_111, w133_112, w133_115, w133_116, w133_119, w133_121, w133_122, w133_125, w133_126, w133_127, w133_130, w133_131, w133_133, w133_134, w133_137, w133_138, w133_141, w133_144, w133_145, w133_145i, w133_146, w133_149, w133_150, w133_151, w133_154, w133_155, w133_155i, w133_156, w133_159, w133_160, w133_161, w133_164, w133_167, ks_118, c_mhere hT (show p < 2 ^ 30 by omega), c_in, in_fig hT.2.1, z, ↓reduceIte, Option.toList_some, Option.toList_none, List.cons_append, List.nil_append, Bool.false_eq_true]
      rw [Nat.sub_self, Nat.add_zero]
theorem c_mstep {p : Nat} (hT : mTX L tx ρ) (hp : p ≤ 300) : Cq 133 [(.ref (118 : Nat))] (mS ρ p b sg fg vl) Q = Q none (mS ρ (toA L tx p) (skB L tx p) (toS L tx p) (toF L tx p) (toV L tx p)) := by
  have hL := hT.1
  have hb := skB_le (L := L) (tx := tx) p
  refine Cq_of (Er_of ?_)
  show Wq none 133 0 [some (.ref (118 : Nat))] [] _ _
  rw [l_st1 hT L p (by omega) (by omega)]
  show Wq none 133 22 [some (.ref (118 : Nat))] [] (mS ρ (skB L tx p) b sg fg vl) _
  unfold toA toS toF toV
  by_cases z : isF L tx (skB L tx p) = true
  · rw [if_pos z, if_pos z, if_pos z, if_pos z]
    simp only [w133_1, w133_4, w133_6, w133_9, w133_10, w133_10i, w133_11, w133_14, w133_15, w133_16, w133_19, w133_22, w133_23, w133_24, w133_27, w133_30, w133_31, w133_32, w133_35, w133_38, w133_39, w133_40, w133_43, w133_44, w133_45, w133_48, w133_49, w133_52, w133_53, w133_56, w133_59, w133_62, w133_65, w133_66, w133_66i, w133_67, w133_70, w133_71, w133_74, w133_77, w133_78, w133_81, w133_82, w133_83, w133_86, w133_87, w133_88, w133_90, w133_94, w133_97, w133_98, w133_101, w133_104, w133_107, w133_110, w133_111, w133_112, w133_115, w133_116, w133_119, w133_121, w133_122, w133_125, w133_126, w133_127, w133_130, w133_131, w133_133, w133_134, w133_137, w133_138, w133_141, w133_144, w133_145, w133_145i, w133_146, w133_149, w133_150, w133_151, w133_154, w133_155, w133_155i, w133_156, w133_159, w133_160, w133_161, w133_164, w133_167, ks_118, c_mhere hT (show skB L tx p < 2 ^ 30 by omega), m_16, mS_bg, mS_sg, mS_fg, mS_vl, m_18, c_in, in_fig hT.2.1, z, nI_ne1, ↓reduceIte, Option.toList_some, Option.toList_none, List.cons_append, List.nil_append, and_self]
    rw [l_st2 hT L (skB L tx p) 0 0 (by omega) (by omega) (by omega), Nat.zero_add]
    exact ⟨rfl, rfl⟩
  · rw [if_neg z, if_neg z, if_neg z, if_neg z]
    by_cases y : skB L tx p < L
    · rw [if_pos y]
      have el : ltI L tx (skB L tx p) = nI (tx (skB L tx p)) := if_pos y
      have h0 : nI 0 ≤ nI (tx (skB L tx p)) := nI_le (by omega) (by have := hT.2.1 _ y; omega)
      have hin : ¬ (lN 48 ≤ (ltI L tx (skB L tx p)).toInt64 ∧ (ltI L tx (skB L tx p)).toInt64 ≤ lN 57) := fun w => z ((in_fig (p := skB L tx p) hT.2.1).mp w)
      rw [el] at hin
      simp only [w133_1, w133_4, w133_6, w133_9, w133_10, w133_10i, w133_11, w133_14, w133_15, w133_16, w133_19, w133_22, w133_23, w133_24, w133_27, w133_30, w133_31, w133_32, w133_35, w133_38, w133_39, w133_40, w133_43, w133_44, w133_45, w133_48, w133_49, w133_52, w133_53, w133_56, w133_59, w133_62, w133_65, w133_66, w133_66i, w133_67, w133_70, w133_71, w133_74, w133_77, w133_78, w133_81, w133_82, w133_83, w133_86, w133_87, w133_88, w133_90, w133_94, w133_97, w133_98, w133_101, w133_104, w133_107, w133_110, w133_111, w133_112, w133_115, w133_116, w133_119, w133_121, w133_122, w133_125, w133_126, w133_127, w133_130, w133_131, w133_133, w133_134, w133_137, w133_138, w133_141, w133_144, w133_145, w133_145i, w133_146, w133_149, w133_150, w133_151, w133_154, w133_155, w133_155i, w133_156, w133_159, w133_160, w133_161, w133_164, w133_167, ks_118, c_mhere hT (show skB L tx p < 2 ^ 30 by omega), m_16, mS_bg, mS_sg, mS_fg, mS_vl, m_18, c_in, el, hin, h0, nI_add, mS_at, ↓reduceIte, Option.toList_some, Option.toList_none, List.cons_append, List.nil_append, and_self]
    · rw [if_neg y]
      have el : ltI L tx (skB L tx p) = -1 := if_neg y
      have h0 : ¬ nI 0 ≤ (-1 : Int32) := by decide
      have hin : ¬ (lN 48 ≤ (ltI L tx (skB L tx p)).toInt64 ∧ (ltI L tx (skB L tx p)).toInt64 ≤ lN 57) := fun w => z ((in_fig (p := skB L tx p) hT.2.1).mp w)
      rw [el] at hin
      simp only [w133_1, w133_4, w133_6, w133_9, w133_10, w133_10i, w133_11, w133_14, w133_15, w133_16, w133_19, w133_22, w133_23, w133_24, w133_27, w133_30, w133_31, w133_32, w133_35, w133_38, w133_39, w133_40, w133_43, w133_44, w133_45, w133_48, w133_49, w133_52, w133_53, w133_56, w133_59, w133_62, w133_65, w133_66, w133_66i, w133_67, w133_70, w133_71, w133_74, w133_77, w133_78, w133_81, w133_82, w133_83, w133_86, w133_87, w133_88, w133_90, w133_94, w133_97, w133_98, w133_101, w133_104, w133_107, w133_110, w133_111, w133_112, w133_115, w133_116, w133_119, w133_121, w133_122, w133_125, w133_126, w133_127, w133_130, w133_131, w133_133, w133_134, w133_137, w133_138, w133_141, w133_144, w133_145, w133_145i, w133_146, w133_149, w133_150, w133_151, w133_154, w133_155, w133_155i, w133_156, w133_159, w133_160, w133_161, w133_164, w133_167, ks_118, c_mhere hT (show skB L tx p < 2 ^ 30 by omega), m_16, mS_bg, mS_sg, mS_fg, mS_vl, m_18, c_in, el, hin, h0, nI_add, Nat.add_zero, mS_at, ↓reduceIte, Option.toList_some, Option.toList_none, List.cons_append, List.nil_append, and_self]
end MT
