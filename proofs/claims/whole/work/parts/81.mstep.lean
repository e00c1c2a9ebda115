/-! the text: the reference's steps -/
def mS (ρ : dm_G) (a b : Nat) (sg : Int32) (fg vl : Nat) : dm_G := dm_up (dm_up (dm_up (dm_up (dm_up ρ 118 16 (.int (nI a))) 118 17 (.int (nI b))) 118 18 (.int sg)) 118 19 (.int (nI fg))) 118 20 (.int (nI vl))
def mTX (L : Nat) (tx : Nat → Nat) (ρ : dm_G) : Prop := L ≤ 240 ∧ (∀ i, i < L → tx i < 256) ∧ ρ 118 9 = .int (nI L) ∧ ρ 118 8 = (.ref (125 : Nat)) ∧ ρ 118 1 = (.ref (120 : Nat)) ∧ ∀ i, i < L → gi ρ 125 i = nI (tx i)
def toA (L : Nat) (tx : Nat → Nat) (p : Nat) : Nat := if isF L tx (skB L tx p) = true then nuE L tx p else if skB L tx p < L then skB L tx p + 1 else skB L tx p
def toS (L : Nat) (tx : Nat → Nat) (p : Nat) : Int32 := if isF L tx (skB L tx p) = true then nI 48 else ltI L tx (skB L tx p)
def toF (L : Nat) (tx : Nat → Nat) (p : Nat) : Nat := if isF L tx (skB L tx p) = true then nuE L tx p - skB L tx p else 0
def toV (L : Nat) (tx : Nat → Nat) (p : Nat) : Nat := if isF L tx (skB L tx p) = true then vR L tx L (skB L tx p) 0 0 else 0
section MT
variable {L : Nat} {tx : Nat → Nat} {ρ : dm_G} {a b fg vl : Nat} {sg : Int32} {Q : Option Value → dm_G → Prop}
theorem m_16 : mS ρ a b sg fg vl 118 16 = .int (nI a) := rfl
theorem m_17 : mS ρ a b sg fg vl 118 17 = .int (nI b) := rfl
theorem m_18 : mS ρ a b sg fg vl 118 18 = .int sg := rfl
theorem m_19 : mS ρ a b sg fg vl 118 19 = .int (nI fg) := rfl
theorem m_20 : mS ρ a b sg fg vl 118 20 = .int (nI vl) := rfl
theorem mS_o {i j : Nat} (h : ¬ (i = 118 ∧ 16 ≤ j ∧ j ≤ 20)) : mS ρ a b sg fg vl i j = ρ i j := by
  unfold mS
  rw [up_get, if_neg (by omega), up_get, if_neg (by omega), up_get, if_neg (by omega), up_get, if_neg (by omega), up_get, if_neg (by omega)]
theorem mS_gi {i j : Nat} (h : ¬ i = 118) : gi (mS ρ a b sg fg vl) i j = gi ρ i j := gi_of (mS_o (by omega))
theorem up_up {k j : Nat} {v w : Value} : dm_up (dm_up ρ k j v) k j w = dm_up ρ k j w := by
  funext x y
  simp only [up_get]
  by_cases h : x = k ∧ y = j
  · rw [if_pos h, if_pos h]
  · rw [if_neg h, if_neg h, if_neg h]
theorem up_sw {k j k2 j2 : Nat} {v w : Value} (h : ¬ (k = k2 ∧ j = j2)) : dm_up (dm_up ρ k j v) k2 j2 w = dm_up (dm_up ρ k2 j2 w) k j v := by
  funext x y
  simp only [up_get]
  by_cases h1 : x = k ∧ y = j
  · rw [if_pos h1, if_neg (by omega), if_pos h1]
  · rw [if_neg h1, if_neg h1]
theorem mS_at {a' : Nat} : dm_up (mS ρ a b sg fg vl) 118 16 (.int (nI a')) = mS ρ a' b sg fg vl := by
  unfold mS
  rw [up_sw (k := 118) (j := 20) (k2 := 118) (j2 := 16) (by omega), up_sw (k := 118) (j := 19) (k2 := 118) (j2 := 16) (by omega), up_sw (k := 118) (j := 18) (k2 := 118) (j2 := 16) (by omega), up_sw (k := 118) (j := 17) (k2 := 118) (j2 := 16) (by omega), up_up]
theorem mS_bg {b' : Nat} : dm_up (mS ρ a b sg fg vl) 118 17 (.int (nI b')) = mS ρ a b' sg fg vl := by
  unfold mS
  rw [up_sw (k := 118) (j := 20) (k2 := 118) (j2 := 17) (by omega), up_sw (k := 118) (j := 19) (k2 := 118) (j2 := 17) (by omega), up_sw (k := 118) (j := 18) (k2 := 118) (j2 := 17) (by omega), up_up]
theorem mS_sg {sg' : Int32} : dm_up (mS ρ a b sg fg vl) 118 18 (.int sg') = mS ρ a b sg' fg vl := by
  unfold mS
  rw [up_sw (k := 118) (j := 20) (k2 := 118) (j2 := 18) (by omega), up_sw (k := 118) (j := 19) (k2 := 118) (j2 := 18) (by omega), up_up]
theorem mS_fg {fg' : Nat} : dm_up (mS ρ a b sg fg vl) 118 19 (.int (nI fg')) = mS ρ a b sg fg' vl := by
  unfold mS
  rw [up_sw (k := 118) (j := 20) (k2 := 118) (j2 := 19) (by omega), up_up]
theorem mS_vl {vl' : Nat} : dm_up (mS ρ a b sg fg vl) 118 20 (.int (nI vl')) = mS ρ a b sg fg vl' := by
  unfold mS
  rw [up_up]
theorem mS_up {i j : Nat} {v : Value} (h : ¬ (i = 118 ∧ 16 ≤ j ∧ j ≤ 20)) : dm_up (mS ρ a b sg fg vl) i j v = mS (dm_up ρ i j v) a b sg fg vl := by
  unfold mS
  rw [up_sw (by omega), up_sw (k := 118) (j := 19) (by omega), up_sw (k := 118) (j := 18) (by omega), up_sw (k := 118) (j := 17) (by omega), up_sw (k := 118) (j := 16) (by omega)]
theorem c_mhere {p : Nat} (hT : mTX L tx ρ) (hp : p < 2 ^ 30) : Cq 133 [(.ref (118 : Nat))] (mS ρ p b sg fg vl) Q = Q (some (.int (ltI L tx p))) (mS ρ p b sg fg vl) := by
  obtain ⟨hL, ht, h9, h8, h1, hx⟩ := hT
  have y9 : mS ρ p b sg fg vl 118 9 = .int (nI L) := (mS_o (by omega)).trans h9
  have y8 : mS ρ p b sg fg vl 118 8 = (.ref (125 : Nat)) := (mS_o (by omega)).trans h8
  refine Cq_of (Er_of ?_)
  show Wq none 133 0 [some (.ref (118 : Nat))] [] _ _
  unfold ltI
  by_cases z : p < L
  · have n1 : ¬ nI L ≤ nI p := nI_ge z (by omega)
    have y3 : gi (mS ρ p b sg fg vl) 125 p = nI (tx p) := (mS_gi (by omega)).trans (hx p z)
    simp only [w133_0, w133_1, w133_4, w133_5, w133_8, w133_11, w133_12, w133_15, w133_16, w133_19, w133_20, w133_23, w133_24, ks_118, m_16, y8, y9, n1, kt_125, in_nI (show p < kl 125 by rw [kl_125]; omega) (by rw [kl_125]; omega), nI_clamp (show p < 2 ^ 31 by omega), y3, z, ↓reduceIte, Option.toList_some, Option.toList_none, List.cons_append, List.nil_append, and_self]
  · have n1 : nI L ≤ nI p := nI_le (by omega) (by omega)
    simp only [w133_0, w133_1, w133_4, w133_5, w133_8, w133_11, w133_12, w133_15, w133_16, w133_19, w133_20, w133_23, w133_24, ks_118, m_16, y9, n1, z, ↓reduceIte, Option.toList_some, Option.toList_none, List.cons_append, List.nil_append, and_self]
theorem in_fig {p : Nat} (ht : ∀ i, i < L → tx i < 256) : (lN 48 ≤ (ltI L tx p).toInt64 ∧ (ltI L tx p).toInt64 ≤ lN 57) ↔ isF L tx p = true := by
  rw [in_ok2 (by omega) (by omega)]
  unfold ltI isF
  by_cases z : p < L
  · have := ht p z
    rw [if_pos z]
    simp only [z, decide_true, Bool.true_and, Bool.and_eq_true, decide_eq_true_eq]
    constructor
    · rintro ⟨j, h1, h2, h3⟩
      have := nI_inj (by omega) (by omega) h3
      omega
    · intro h
      exact ⟨tx p, h.1, h.2, rfl⟩
  · rw [if_neg z]
    simp only [z, decide_false, Bool.false_and, Bool.false_eq_true, iff_false]
    rintro ⟨j, h1, h2, h3⟩
    exact nI_m1 (show j < 2 ^ 31 by omega) h3
theorem l_st1 (hT : mTX L tx ρ) : ∀ (f p : Nat), L ≤ p + f → p + f < 2 ^ 29 → Wq none 134 0 [some (.ref (118 : Nat))] [] (mS ρ p b sg fg vl) Q = Wq none 134 22 [some (.ref (118 : Nat))] [] (mS ρ (runN (isB L tx) f p) b sg fg vl) Q := by
  intro f
  induction f with
  | zero =>
    intro p h1 h2
    have z : ¬ ltI L tx p = nI 32 := fun z => by
      have := isB_L p ((lt_32 hT.2.1).mp z)
      omega
    rw [w134_0]
    simp only [w134_1, w134_4, w134_6, w134_9, w134_10, w134_10i, w134_11, w134_14, w134_15, w134_16, w134_19, w134_23, w134_24, w134_27, w134_30, w134_31, w134_32, w134_35, w134_38, w134_39, w134_40, w134_43, w134_44, w134_45, w134_48, w134_49, w134_52, w134_53, w134_56, w134_59, w134_62, w134_65, w134_66, w134_66i, w134_67, w134_70, w134_71, w134_74, w134_77, w134_78, w134_81, w134_82, w134_83, w134_86, w134_87, w134_88, w134_90, w134_93, w134_94, w134_97, w134_98, w134_101, w134_104, w134_107, w134_110, w134_111, w134_112, w134_115, w134_116, w134_119, w134_121, w134_122, w134_125, w134_126, w134_127, w134_130, w134_131, w134_133, w134_134, w134_137, w134_138, w134_141, w134_144, w134_145, w134_145i, w134_146, w134_149, w134_150, w134_151, w134_154, w134_155, w134_155i, w134_156, w134_159, w134_160, w134_161, w134_164, w134_167, ks_118, c_mhere hT (show p < 2 ^ 30 by omega), z, ↓reduceIte, Option.toList_some, Option.toList_none, List.cons_append, List.nil_append]
    rfl
  | succ f ih =>
    intro p h1 h2
    rw [w134_0, runS]
    by_cases z : isB L tx p = true
    · rw [if_pos z]
      have y := (lt_32 hT.2.1).mpr z
      simp only [w134_1, w134_4, w134_6, w134_9, w134_10, w134_10i, w134_11, w134_14, w134_15, w134_16, w134_19, w134_23, w134_24, w134_27, w134_30, w134_31, w134_32, w134_35, w134_38, w134_39, w134_40, w134_43, w134_44, w134_45, w134_48, w134_49, w134_52, w134_53, w134_56, w134_59, w134_62, w134_65, w134_66, w134_66i, w134_67, w134_70, w134_71, w134_74, w134_77, w134_78, w134_81, w134_82, w134_83, w134_86, w134_87, w134_88, w134_90, w134_93, w134_94, w134_97, w134_98, w134_101, w134_104, w134_107, w134_110, w134_111, w134_112, w134_115, w134_116, w134_119, w134_121, w134_122, w134_125, w134_126, w134_127, w134_130, w134_131, w134_133, w134_134, w134_137, w134_138, w134_141, w134_144, w134_145, w134_145i, w134_146, w134_149, w134_150, w134_151, w134_154, w134_155, w134_155i, w134_156, w134_159, w134_160, w134_161, w134_164, w134_167, ks_118, c_mhere hT (show p < 2 ^ 30 by omega), y, m_16, nI_add, mS_at, ↓reduceIte, Option.toList_some, Option.toList_none, List.cons_append, List.nil_append]
      exact ih (p + 1) (by omega) (by omega)
    · rw [if_neg z]
      have y : ¬ ltI L tx p = nI 32 := fun w => z ((lt_32 hT.2.1).mp w)
      simp only [w134_1, w134_4, w134_6, w134_9, w134_10, w134_10i, w134_11, w134_14, w134_15, w134_16, w134_19, w134_23, w134_24, w134_27, w134_30, w134_31, w134_32, w134_35, w134_38, w134_39, w134_40, w134_43, w134_44, w134_45, w134_48, w134_49, w134_52, w134_53, w134_56, w134_59, w134_62, w134_65, w134_66, w134_66i, w134_67, w134_70, w134_71, w134_74, w134_77, w134_78, w134_81, w134_82, w134_83, w134_86, w134_87, w134_88, w134_90, w134_93, w134_94, w134_97, w134_98, w134_101, w134_104, w134_107, w134_110, w134_111, w134_112, w134_115, w134_116, w134_119, w134_121, w134_122, w134_125, w134_126, w134_127, w134_130, w134_131, w134_133, w134_134, w134_137, w134_138, w134_141, w134_144, w134_145, w134_145i, w134_146, w134_149, w134_150, w134_151, w134_154, w134_155, w134_155i, w134_156, w134_159, w134_160, w134_161, w134_164, w134_167, ks_118, c_mhere hT (show p < 2 ^ 30 by omega), y, ↓reduceIte, Option.toList_some, Option.toList_none, List.cons_append, List.nil_append]
theorem l_st2 (hT : mTX L tx ρ) : ∀ (f p k v : Nat), L ≤ p + f → p + f < 2 ^ 29 → k + f < 2 ^ 29 → Wq none 134 93 [some (.ref (118 : Nat))] [] (mS ρ p b sg k v) Q = Q none (mS ρ (runN (isF L tx) f p) b sg (k + (runN (isF L tx) f p - p)) (vR L tx f p k v)) := by
  intro f
  induction f with
  | zero =>
    intro p k v h1 h2 h3
    have z : ¬ isF L tx p = true := fun z => by
      have := isF_L p z
      omega
    rw [w134_93]
    simp only [w134_0, w134_1, w134_4, w134_6, w134_9, w134_10, w134_10i, w134_11, w134_14, w134_15, w134_16, w134_19, w134_22, w134_23, w134_24, w134_27, w134_30, w134_31, w134_32, w134_35, w134_38, w134_39, w134_40, w134_43, w134_44, w134_45, w134_48, w134_49, w134_52, w134_53, w134_56, w134_59, w134_62, w134_65, w134_66, w134_66i, w134_67, w134_70, w134_71, w134_74, w134_77, w134_78, w134_81, w134_82, w134_83, w134_86, w134_87, w134_88, w134_90, w134_94, w134_97, w134_98, w134_101, w134_104, w134_107, w134_110, w134_111, w134_112, w134_115, w134_116, w134_119, w134_121, w134_122, w134_125, w134_126, w134_127, w134_130, w134_131, w134_133, w134_134, w134_137, w134_138, w134_141, w134_144, w134_145, w134_145i, w134_146, w134_149, w134_150, w134_151, w134_154, w134_155, w134_155i, w134_156, w134_159, w134_160, w134_161, w134_164, w134_167, ks_118, c_mhere hT (show p < 2 ^ 30 by omega), c_in, in_fig hT.2.1, z, ↓reduceIte, Option.toList_some, Option.toList_none, List.cons_append, List.nil_append, Bool.false_eq_true]
    show _ = Q none (mS ρ p b sg (k + (p - p)) v)
    rw [Nat.sub_self, Nat.add_zero]
  | succ f ih =>
    intro p k v h1 h2 h3
    rw [w134_93, runS, vRS]
    by_cases z : isF L tx p = true
    · rw [if_pos z, if_pos z]
      have hz : p < L ∧ 48 ≤ tx p ∧ tx p ≤ 57 := by
        have z' := z
        unfold isF at z'
        simpa only [Bool.and_eq_true, decide_eq_true_eq] using z'
      have el : ltI L tx p = nI (tx p) := if_pos hz.1
      have hle := (run_le (L := L) (q := isF L tx) isF_L f (p + 1)).1
      have ek : k + 1 + (runN (isF L tx) f (p + 1) - (p + 1)) = k + (runN (isF L tx) f (p + 1) - p) := by omega
      have hin := (in_fig (p := p) hT.2.1).mpr z
      rw [el] at hin
      by_cases y : k < 3
      · have y1 : ¬ nI 3 ≤ nI k := nI_ge y (by omega)
        rw [if_pos y]
        simp only [w134_0, w134_1, w134_4, w134_6, w134_9, w134_10, w134_10i, w134_11, w134_14, w134_15, w134_16, w134_19, w134_22, w134_23, w134_24, w134_27, w134_30, w134_31, w134_32, w134_35, w134_38, w134_39, w134_40, w134_43, w134_44, w134_45, w134_48, w134_49, w134_52, w134_53, w134_56, w134_59, w134_62, w134_65, w134_66, w134_66i, w134_67, w134_70, w134_71, w134_74, w134_77, w134_78, w134_81, w134_82, w134_83, w134_86, w134_87, w134_88, w134_90, w134_94, w134_97, w134_98, w134_101, w134_104, w134_107, w134_110, w134_111, w134_112, w134_115, w134_116, w134_119, w134_121, w134_122, w134_125, w134_126, w134_127, w134_130, w134_131, w134_133, w134_134, w134_137, w134_138, w134_141, w134_144, w134_145, w134_145i, w134_146, w134_149, w134_150, w134_151, w134_154, w134_155, w134_155i, w134_156, w134_159, w134_160, w134_161, w134_164, w134_167, ks_118, c_mhere hT (show p < 2 ^ 30 by omega), el, c_in, hin, nI_ne1, m_16, m_19, m_20, y1, pk_mul, nI_add, pk_sub (show 48 ≤ 10 * v + tx p by omega), mS_vl, mS_fg, mS_at, ↓reduceIte, Option.toList_some, Option.toList_none, List.cons_append, List.nil_append, and_self]
        rw [ih (p + 1) (k + 1) _ (by omega) (by omega) (by omega), ek]
      · have y1 : nI 3 ≤ nI k := nI_le (by omega) (by omega)
        rw [if_neg y]
        simp only [w134_0, w134_1, w134_4, w134_6, w134_9, w134_10, w134_10i, w134_11, w134_14, w134_15, w134_16, w134_19, w134_22, w134_23, w134_24, w134_27, w134_30, w134_31, w134_32, w134_35, w134_38, w134_39, w134_40, w134_43, w134_44, w134_45, w134_48, w134_49, w134_52, w134_53, w134_56, w134_59, w134_62, w134_65, w134_66, w134_66i, w134_67, w134_70, w134_71, w134_74, w134_77, w134_78, w134_81, w134_82, w134_83, w134_86, w134_87, w134_88, w134_90, w134_94, w134_97, w134_98, w134_101, w134_104, w134_107, w134_110, w134_111, w134_112, w134_115, w134_116, w134_119, w134_121, w134_122, w134_125, w134_126, w134_127, w134_130, w134_131, w134_133, w134_134, w134_137, w134_138, w134_141, w134_144, w134_145, w134_145i, w134_146, w134_149, w134_150, w134_151, w134_154, w134_155, w134_155i, w134_156, w134_159, w134_160, w134_161, w134_164, w134_167, ks_118, c_mhere hT (show p < 2 ^ 30 by omega), el, c_in, hin, nI_ne1, m_16, m_19, m_20, y1, nI_add, mS_vl, mS_fg, mS_at, ↓reduceIte, Option.toList_some, Option.toList_none, List.cons_append, List.nil_append, and_self]
        rw [ih (p + 1) (k + 1) _ (by omega) (by omega) (by omega), ek]
    · rw [if_neg z, if_neg z]
      simp only [w134_0, w134_1, w134_4, w134_6, w134_9, w134_10, w134_10i, w134_11, w134_14, w134_15, w134_16, w134_19, w134_22, w134_23, w134_24, w134_27, w134_30, w134_31, w134_32, w134_35, w134_38, w134_39, w134_40, w134_43, w134_44, w134_45, w134_48, w134_49, w134_52, w134_53, w134_56, w134_59, w134_62, w134_65, w134_66, w134_66i, w134_67, w134_70, w134_71, w134_74, w134_77, w134_78, w134_81, w134_82, w134_83, w134_86, w134_87, w134_88, w134_90, w134_94, w134_97, w134_98, w134_101, w134_104, w134_107, w134_110, w134_111, w134_112, w134_115, w134_116, w134_119, w134_121, w134_122, w134_125, w134_126, w134_127, w134_130, w134_131, w134_133, w134_134, w134_137, w134_138, w134_141, w134_144, w134_145, w134_145i, w134_146, w134_149, w134_150, w134_151, w134_154, w134_155, w134_155i, w134_156, w134_159, w134_160, w134_161, w134_164, w134_167, ks_118, c_mhere hT (show p < 2 ^ 30 by omega), c_in, in_fig hT.2.1, z, ↓reduceIte, Option.toList_some, Option.toList_none, List.cons_append, List.nil_append, Bool.false_eq_true]
      rw [Nat.sub_self, Nat.add_zero]
theorem c_mstep {p : Nat} (hT : mTX L tx ρ) (hp : p ≤ 300) : Cq 134 [(.ref (118 : Nat))] (mS ρ p b sg fg vl) Q = Q none (mS ρ (toA L tx p) (skB L tx p) (toS L tx p) (toF L tx p) (toV L tx p)) := by
  have hL := hT.1
  have hb := skB_le (L := L) (tx := tx) p
  refine Cq_of (Er_of ?_)
  show Wq none 134 0 [some (.ref (118 : Nat))] [] _ _
  rw [l_st1 hT L p (by omega) (by omega)]
  show Wq none 134 22 [some (.ref (118 : Nat))] [] (mS ρ (skB L tx p) b sg fg vl) _
  unfold toA toS toF toV
  by_cases z : isF L tx (skB L tx p) = true
  · rw [if_pos z, if_pos z, if_pos z, if_pos z]
    simp only [w134_1, w134_4, w134_6, w134_9, w134_10, w134_10i, w134_11, w134_14, w134_15, w134_16, w134_19, w134_22, w134_23, w134_24, w134_27, w134_30, w134_31, w134_32, w134_35, w134_38, w134_39, w134_40, w134_43, w134_44, w134_45, w134_48, w134_49, w134_52, w134_53, w134_56, w134_59, w134_62, w134_65, w134_66, w134_66i, w134_67, w134_70, w134_71, w134_74, w134_77, w134_78, w134_81, w134_82, w134_83, w134_86, w134_87, w134_88, w134_90, w134_94, w134_97, w134_98, w134_101, w134_104, w134_107, w134_110, w134_111, w134_112, w134_115, w134_116, w134_119, w134_121, w134_122, w134_125, w134_126, w134_127, w134_130, w134_131, w134_133, w134_134, w134_137, w134_138, w134_141, w134_144, w134_145, w134_145i, w134_146, w134_149, w134_150, w134_151, w134_154, w134_155, w134_155i, w134_156, w134_159, w134_160, w134_161, w134_164, w134_167, ks_118, c_mhere hT (show skB L tx p < 2 ^ 30 by omega), m_16, mS_bg, mS_sg, mS_fg, mS_vl, m_18, c_in, in_fig hT.2.1, z, nI_ne1, ↓reduceIte, Option.toList_some, Option.toList_none, List.cons_append, List.nil_append, and_self]
    rw [l_st2 hT L (skB L tx p) 0 0 (by omega) (by omega) (by omega), Nat.zero_add]
    exact ⟨rfl, rfl⟩
  · rw [if_neg z, if_neg z, if_neg z, if_neg z]
    by_cases y : skB L tx p < L
    · rw [if_pos y]
      have el : ltI L tx (skB L tx p) = nI (tx (skB L tx p)) := if_pos y
      have h0 : nI 0 ≤ nI (tx (skB L tx p)) := nI_le (by omega) (by have := hT.2.1 _ y; omega)
      have hin : ¬ (lN 48 ≤ (ltI L tx (skB L tx p)).toInt64 ∧ (ltI L tx (skB L tx p)).toInt64 ≤ lN 57) := fun w => z ((in_fig (p := skB L tx p) hT.2.1).mp w)
      rw [el] at hin
      simp only [w134_1, w134_4, w134_6, w134_9, w134_10, w134_10i, w134_11, w134_14, w134_15, w134_16, w134_19, w134_22, w134_23, w134_24, w134_27, w134_30, w134_31, w134_32, w134_35, w134_38, w134_39, w134_40, w134_43, w134_44, w134_45, w134_48, w134_49, w134_52, w134_53, w134_56, w134_59, w134_62, w134_65, w134_66, w134_66i, w134_67, w134_70, w134_71, w134_74, w134_77, w134_78, w134_81, w134_82, w134_83, w134_86, w134_87, w134_88, w134_90, w134_94, w134_97, w134_98, w134_101, w134_104, w134_107, w134_110, w134_111, w134_112, w134_115, w134_116, w134_119, w134_121, w134_122, w134_125, w134_126, w134_127, w134_130, w134_131, w134_133, w134_134, w134_137, w134_138, w134_141, w134_144, w134_145, w134_145i, w134_146, w134_149, w134_150, w134_151, w134_154, w134_155, w134_155i, w134_156, w134_159, w134_160, w134_161, w134_164, w134_167, ks_118, c_mhere hT (show skB L tx p < 2 ^ 30 by omega), m_16, mS_bg, mS_sg, mS_fg, mS_vl, m_18, c_in, el, hin, h0, nI_add, mS_at, ↓reduceIte, Option.toList_some, Option.toList_none, List.cons_append, List.nil_append, and_self]
    · rw [if_neg y]
      have el : ltI L tx (skB L tx p) = -1 := if_neg y
      have h0 : ¬ nI 0 ≤ (-1 : Int32) := by decide
      have hin : ¬ (lN 48 ≤ (ltI L tx (skB L tx p)).toInt64 ∧ (ltI L tx (skB L tx p)).toInt64 ≤ lN 57) := fun w => z ((in_fig (p := skB L tx p) hT.2.1).mp w)
      rw [el] at hin
      simp only [w134_1, w134_4, w134_6, w134_9, w134_10, w134_10i, w134_11, w134_14, w134_15, w134_16, w134_19, w134_22, w134_23, w134_24, w134_27, w134_30, w134_31, w134_32, w134_35, w134_38, w134_39, w134_40, w134_43, w134_44, w134_45, w134_48, w134_49, w134_52, w134_53, w134_56, w134_59, w134_62, w134_65, w134_66, w134_66i, w134_67, w134_70, w134_71, w134_74, w134_77, w134_78, w134_81, w134_82, w134_83, w134_86, w134_87, w134_88, w134_90, w134_94, w134_97, w134_98, w134_101, w134_104, w134_107, w134_110, w134_111, w134_112, w134_115, w134_116, w134_119, w134_121, w134_122, w134_125, w134_126, w134_127, w134_130, w134_131, w134_133, w134_134, w134_137, w134_138, w134_141, w134_144, w134_145, w134_145i, w134_146, w134_149, w134_150, w134_151, w134_154, w134_155, w134_155i, w134_156, w134_159, w134_160, w134_161, w134_164, w134_167, ks_118, c_mhere hT (show skB L tx p < 2 ^ 30 by omega), m_16, mS_bg, mS_sg, mS_fg, mS_vl, m_18, c_in, el, hin, h0, nI_add, Nat.add_zero, mS_at, ↓reduceIte, Option.toList_some, Option.toList_none, List.cons_append, List.nil_append, and_self]
end MT
