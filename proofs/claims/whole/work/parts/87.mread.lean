/-! the text: the reference reads it all -/
def zlo (σ : dm_G) (k n : Nat) : dm_G := fun a b => if a = k ∧ b < n then .int (nI 0) else σ a b
theorem zlo_o {σ : dm_G} {k n a b : Nat} (h : ¬ a = k) : zlo σ k n a b = σ a b := if_neg (fun z => h z.1)
theorem zlo_S {σ : dm_G} {k n : Nat} : dm_up (zlo σ k n) k n (.int (nI 0)) = zlo σ k (n + 1) := by
  funext a b
  rw [up_get]
  unfold zlo
  by_cases h : a = k
  · by_cases h2 : b = n
    · rw [if_pos ⟨h, h2⟩, if_pos ⟨h, by omega⟩]
    · rw [if_neg (fun z => h2 z.2)]
      by_cases h3 : b < n
      · rw [if_pos ⟨h, h3⟩, if_pos ⟨h, by omega⟩]
      · rw [if_neg (fun z => h3 z.2), if_neg (by omega)]
  · rw [if_neg (fun z => h z.1), if_neg (fun z => h z.1), if_neg (fun z => h z.1)]
section MX
variable {L : Nat} {tx : Nat → Nat} {ρ : dm_G} {rd : Nat → Nat} {Q : Option Value → dm_G → Prop}
theorem mTX_k {σ : dm_G} (hk : ∀ a b, (a = 118 ∧ (b = 9 ∨ b = 8 ∨ b = 1)) ∨ a = 125 → σ a b = ρ a b) (h : mTX L tx ρ) : mTX L tx σ := by
  obtain ⟨h1, h2, h3, h4, h5, h6⟩ := h
  exact ⟨h1, h2, (hk _ _ (by omega)).trans h3, (hk _ _ (by omega)).trans h4, (hk _ _ (by omega)).trans h5, fun i hi => (gi_of (hk _ _ (by omega))).trans (h6 i hi)⟩
theorem c_hereG {p : Nat} (hT : mTX L tx ρ) (h16 : ρ 118 16 = .int (nI p)) (hp : p < 2 ^ 30) : Cq 132 [(.ref (118 : Nat))] ρ Q = Q (some (.int (ltI L tx p))) ρ := by
  obtain ⟨hL, ht, y9, y8, h1, hx⟩ := hT
  refine Cq_of (Er_of ?_)
  show Wq none 132 0 [some (.ref (118 : Nat))] [] _ _
  unfold ltI
  by_cases z : p < L
  · have n1 : ¬ nI L ≤ nI p := nI_ge z (by omega)
    have y3 := hx p z
    simp only [w132_0, w132_1, w132_4, w132_5, w132_8, w132_11, w132_12, w132_15, w132_16, w132_19, w132_20, w132_23, w132_24, ks_118, h16, y8, y9, n1, kt_125, in_nI (show p < kl 125 by rw [kl_125]; omega) (by rw [kl_125]; omega), nI_clamp (show p < 2 ^ 31 by omega), y3, z, ↓reduceIte, Option.toList_some, Option.toList_none, List.cons_append, List.nil_append, and_self]
  · have n1 : nI L ≤ nI p := nI_le (by omega) (by omega)
    simp only [w132_0, w132_1, w132_4, w132_5, w132_8, w132_11, w132_12, w132_15, w132_16, w132_19, w132_20, w132_23, w132_24, ks_118, h16, y9, n1, z, ↓reduceIte, Option.toList_some, Option.toList_none, List.cons_append, List.nil_append, and_self]
theorem c_here0 {p : Nat} (hT : mTX L tx ρ) (hp : p < 2 ^ 30) : Cq 132 [(.ref (118 : Nat))] (dm_up ρ 118 16 (.int (nI p))) Q = Q (some (.int (ltI L tx p))) (dm_up ρ 118 16 (.int (nI p))) :=
  c_hereG (mTX_k (fun a b z => by rw [up_get, if_neg (by omega)]) hT) rfl hp
theorem c_here1 {p b : Nat} (hT : mTX L tx ρ) (hp : p < 2 ^ 30) : Cq 132 [(.ref (118 : Nat))] (dm_up (dm_up ρ 118 16 (.int (nI p))) 118 17 (.int (nI b))) Q = Q (some (.int (ltI L tx p))) (dm_up (dm_up ρ 118 16 (.int (nI p))) 118 17 (.int (nI b))) :=
  c_hereG (mTX_k (fun a b z => by rw [up_get, if_neg (by omega), up_get, if_neg (by omega)]) hT) rfl hp
theorem l_st0 (hT : mTX L tx ρ) : ∀ (f p : Nat), L ≤ p + f → p + f < 2 ^ 29 → Wq none 133 0 [some (.ref (118 : Nat))] [] (dm_up ρ 118 16 (.int (nI p))) Q = Wq none 133 22 [some (.ref (118 : Nat))] [] (dm_up ρ 118 16 (.int (nI (runN (isB L tx) f p)))) Q := by
  intro f
  induction f with
  | zero =>
    intro p h1 h2
    have z : ¬ ltI L tx p = nI 32 := fun z => by
      have := isB_L p ((lt_32 hT.2.1).mp z)
      omega
    rw [w133_0]
    simp only [w133_1, w133_4, w133_6, w133_9, w133_10, w133_10i, w133_11, w133_14, w133_15, w133_16, w133_19, w133_23, w133_24, w133_27, w133_30, w133_31, w133_32, w133_35, w133_38, w133_39, w133_40, w133_43, w133_44, w133_45, w133_48, w133_49, w133_52, w133_53, w133_56, w133_59, w133_62, w133_65, w133_66, w133_66i, w133_67, w133_70, w133_71, w133_74, w133_77, w133_78, w133_81, w133_82, w133_83, w133_86, w133_87, w133_88, w133_90, w133_93, w133_94, w133_97, w133_98, w133_101, w133_104, w133_107, w133_110, w133_111, w133_112, w133_115, w133_116, w133_119, w133_121, w133_122, w133_125, w133_126, w133_127, w133_130, w133_131, w133_133, w133_134, w133_137, w133_138, w133_141, w133_144, w133_145, w133_145i, w133_146, w133_149, w133_150, w133_151, w133_154, w133_155, w133_155i, w133_156, w133_159, w133_160, w133_161, w133_164, w133_167, ks_118, c_here0 hT (show p < 2 ^ 30 by omega), z, ↓reduceIte, Option.toList_some, Option.toList_none, List.cons_append, List.nil_append]
    rfl
  | succ f ih =>
    intro p h1 h2
    have e16 : dm_up ρ 118 16 (.int (nI p)) 118 16 = .int (nI p) := rfl
    rw [w133_0, runS]
    by_cases z : isB L tx p = true
    · rw [if_pos z]
      have y := (lt_32 hT.2.1).mpr z
      simp only [w133_1, w133_4, w133_6, w133_9, w133_10, w133_10i, w133_11, w133_14, w133_15, w133_16, w133_19, w133_23, w133_24, w133_27, w133_30, w133_31, w133_32, w133_35, w133_38, w133_39, w133_40, w133_43, w133_44, w133_45, w133_48, w133_49, w133_52, w133_53, w133_56, w133_59, w133_62, w133_65, w133_66, w133_66i, w133_67, w133_70, w133_71, w133_74, w133_77, w133_78, w133_81, w133_82, w133_83, w133_86, w133_87, w133_88, w133_90, w133_93, w133_94, w133_97, w133_98, w133_101, w133_104, w133_107, w133_110, w133_111, w133_112, w133_115, w133_116, w133_119, w133_121, w133_122, w133_125, w133_126, w133_127, w133_130, w133_131, w133_133, w133_134, w133_137, w133_138, w133_141, w133_144, w133_145, w133_145i, w133_146, w133_149, w133_150, w133_151, w133_154, w133_155, w133_155i, w133_156, w133_159, w133_160, w133_161, w133_164, w133_167, ks_118, c_here0 hT (show p < 2 ^ 30 by omega), y, e16, nI_add, up_up, ↓reduceIte, Option.toList_some, Option.toList_none, List.cons_append, List.nil_append]
      exact ih (p + 1) (by omega) (by omega)
    · rw [if_neg z]
      have y : ¬ ltI L tx p = nI 32 := fun w => z ((lt_32 hT.2.1).mp w)
      simp only [w133_1, w133_4, w133_6, w133_9, w133_10, w133_10i, w133_11, w133_14, w133_15, w133_16, w133_19, w133_23, w133_24, w133_27, w133_30, w133_31, w133_32, w133_35, w133_38, w133_39, w133_40, w133_43, w133_44, w133_45, w133_48, w133_49, w133_52, w133_53, w133_56, w133_59, w133_62, w133_65, w133_66, w133_66i, w133_67, w133_70, w133_71, w133_74, w133_77, w133_78, w133_81, w133_82, w133_83, w133_86, w133_87, w133_88, w133_90, w133_93, w133_94, w133_97, w133_98, w133_101, w133_104, w133_107, w133_110, w133_111, w133_112, w133_115, w133_116, w133_119, w133_121, w133_122, w133_125, w133_126, w133_127, w133_130, w133_131, w133_133, w133_134, w133_137, w133_138, w133_141, w133_144, w133_145, w133_145i, w133_146, w133_149, w133_150, w133_151, w133_154, w133_155, w133_155i, w133_156, w133_159, w133_160, w133_161, w133_164, w133_167, ks_118, c_here0 hT (show p < 2 ^ 30 by omega), y, ↓reduceIte, Option.toList_some, Option.toList_none, List.cons_append, List.nil_append]
theorem mS_mk {a b fg vl : Nat} {sg : Int32} : dm_up (dm_up (dm_up (dm_up (dm_up ρ 118 16 (.int (nI a))) 118 17 (.int (nI b))) 118 18 (.int sg)) 118 19 (.int (nI fg))) 118 20 (.int (nI vl)) = mS ρ a b sg fg vl := rfl
theorem c_step0 {p : Nat} (hT : mTX L tx ρ) (hp : p ≤ 300) : Cq 133 [(.ref (118 : Nat))] (dm_up ρ 118 16 (.int (nI p))) Q = Q none (mS ρ (toA L tx p) (skB L tx p) (toS L tx p) (toF L tx p) (toV L tx p)) := by
  have hL := hT.1
  have hb := skB_le (L := L) (tx := tx) p
  have e16 : ∀ q, dm_up ρ 118 16 (.int (nI q)) 118 16 = .int (nI q) := fun q => rfl
  refine Cq_of (Er_of ?_)
  show Wq none 133 0 [some (.ref (118 : Nat))] [] _ _
  rw [l_st0 hT L p (by omega) (by omega)]
  show Wq none 133 22 [some (.ref (118 : Nat))] [] (dm_up ρ 118 16 (.int (nI (skB L tx p)))) _
  unfold toA toS toF toV
  by_cases z : isF L tx (skB L tx p) = true
  · rw [if_pos z, if_pos z, if_pos z, if_pos z]
    simp only [w133_1, w133_4, w133_6, w133_9, w133_10, w133_10i, w133_11, w133_14, w133_15, w133_16, w133_19, w133_22, w133_23, w133_24, w133_27, w133_30, w133_31, w133_32, w133_35, w133_38, w133_39, w133_40, w133_43, w133_44, w133_45, w133_48, w133_49, w133_52, w133_53, w133_56, w133_59, w133_62, w133_65, w133_66, w133_66i, w133_67, w133_70, w133_71, w133_74, w133_77, w133_78, w133_81, w133_82, w133_83, w133_86, w133_87, w133_88, w133_90, w133_94, w133_97, w133_98, w133_101, w133_104, w133_107, w133_110, w133_111, w133_112, w133_115, w133_116, w133_119, w133_121, w133_122, w133_125, w133_126, w133_127, w133_130, w133_131, w133_133, w133_134, w133_137, w133_138, w133_141, w133_144, w133_145, w133_145i, w133_146, w133_149, w133_150, w133_151, w133_154, w133_155, w133_155i, w133_156, w133_159, w133_160, w133_161, w133_164, w133_167, ks_118, c_here1 hT (show skB L tx p < 2 ^ 30 by omega), e16, mS_mk, m_18, c_in, in_fig hT.2.1, z, nI_ne1, mS_sg, ↓reduceIte, Option.toList_some, Option.toList_none, List.cons_append, List.nil_append, and_self]
    rw [l_st2 hT L (skB L tx p) 0 0 (by omega) (by omega) (by omega), Nat.zero_add]
    exact ⟨rfl, rfl⟩
  · rw [if_neg z, if_neg z, if_neg z, if_neg z]
    by_cases y : skB L tx p < L
    · rw [if_pos y]
      have el : ltI L tx (skB L tx p) = nI (tx (skB L tx p)) := if_pos y
      have h0 : nI 0 ≤ nI (tx (skB L tx p)) := nI_le (by omega) (by have := hT.2.1 _ y; omega)
      have hin : ¬ (lN 48 ≤ (ltI L tx (skB L tx p)).toInt64 ∧ (ltI L tx (skB L tx p)).toInt64 ≤ lN 57) := fun w => z ((in_fig (p := skB L tx p) hT.2.1).mp w)
      rw [el] at hin
      simp only [w133_1, w133_4, w133_6, w133_9, w133_10, w133_10i, w133_11, w133_14, w133_15, w133_16, w133_19, w133_22, w133_23, w133_24, w133_27, w133_30, w133_31, w133_32, w133_35, w133_38, w133_39, w133_40, w133_43, w133_44, w133_45, w133_48, w133_49, w133_52, w133_53, w133_56, w133_59, w133_62, w133_65, w133_66, w133_66i, w133_67, w133_70, w133_71, w133_74, w133_77, w133_78, w133_81, w133_82, w133_83, w133_86, w133_87, w133_88, w133_90, w133_94, w133_97, w133_98, w133_101, w133_104, w133_107, w133_110, w133_111, w133_112, w133_115, w133_116, w133_119, w133_121, w133_122, w133_125, w133_126, w133_127, w133_130, w133_131, w133_133, w133_134, w133_137, w133_138, w133_141, w133_144, w133_145, w133_145i, w133_146, w133_149, w133_150, w133_151, w133_154, w133_155, w133_155i, w133_156, w133_159, w133_160, w133_161, w133_164, w133_167, ks_118, c_here1 hT (show skB L tx p < 2 ^ 30 by omega), e16, mS_mk, m_16, m_18, c_in, el, hin, h0, nI_add, mS_at, ↓reduceIte, Option.toList_some, Option.toList_none, List.cons_append, List.nil_append, and_self]
    · rw [if_neg y]
      have el : ltI L tx (skB L tx p) = -1 := if_neg y
      have h0 : ¬ nI 0 ≤ (-1 : Int32) := by decide
      have hin : ¬ (lN 48 ≤ (ltI L tx (skB L tx p)).toInt64 ∧ (ltI L tx (skB L tx p)).toInt64 ≤ lN 57) := fun w => z ((in_fig (p := skB L tx p) hT.2.1).mp w)
      rw [el] at hin
      simp only [w133_1, w133_4, w133_6, w133_9, w133_10, w133_10i, w133_11, w133_14, w133_15, w133_16, w133_19, w133_22, w133_23, w133_24, w133_27, w133_30, w133_31, w133_32, w133_35, w133_38, w133_39, w133_40, w133_43, w133_44, w133_45, w133_48, w133_49, w133_52, w133_53, w133_56, w133_59, w133_62, w133_65, w133_66, w133_66i, w133_67, w133_70, w133_71, w133_74, w133_77, w133_78, w133_81, w133_82, w133_83, w133_86, w133_87, w133_88, w133_90, w133_94, w133_97, w133_98, w133_101, w133_104, w133_107, w133_110, w133_111, w133_112, w133_115, w133_116, w133_119, w133_121, w133_122, w133_125, w133_126, w133_127, w133_130, w133_131, w133_133, w133_134, w133_137, w133_138, w133_141, w133_144, w133_145, w133_145i, w133_146, w133_149, w133_150, w133_151, w133_154, w133_155, w133_155i, w133_156, w133_159, w133_160, w133_161, w133_164, w133_167, ks_118, c_here1 hT (show skB L tx p < 2 ^ 30 by omega), e16, mS_mk, m_16, m_18, c_in, el, hin, h0, nI_add, Nat.add_zero, mS_at, ↓reduceIte, Option.toList_some, Option.toList_none, List.cons_append, List.nil_append, and_self]
theorem l_mread : ∀ (f q : Nat) (ρ : dm_G) (rd : Nat → Nat), L ≤ skB L tx q + f → q ≤ 240 → mTX L tx ρ → RD ρ rd → DW rd →
    ∃ v τ, (∀ Q, Wq none 143 37 [some (.ref (118 : Nat)), some (.int (nI 1))] [] (mS ρ (toA L tx q) (skB L tx q) (toS L tx q) (toF L tx q) (toV L tx q)) Q = Wq none 143 64 [some (.ref (118 : Nat)), some (.int v)] [] τ Q) ∧ MPo ρ (prT L tx f (skB L tx q) rd) v τ := by
  have fin : ∀ (f q : Nat) (ρ : dm_G) (rd : Nat → Nat), (f = 0 ∨ ¬ skB L tx q < L) → L ≤ skB L tx q → RD ρ rd →
    ∃ v τ, (∀ Q, Wq none 143 37 [some (.ref (118 : Nat)), some (.int (nI 1))] [] (mS ρ (toA L tx q) (skB L tx q) (toS L tx q) (toF L tx q) (toV L tx q)) Q = Wq none 143 64 [some (.ref (118 : Nat)), some (.int v)] [] τ Q) ∧ MPo ρ (prT L tx f (skB L tx q) rd) v τ := by
    intro f q ρ rd hf hq hR
    have z : ¬ isF L tx (skB L tx q) = true := fun z => by have := isF_L _ z; omega
    have eS : toS L tx q = -1 := (if_neg z).trans (if_neg (by omega))
    have eA : toA L tx q = skB L tx q := (if_neg z).trans (if_neg (by omega))
    have ep : prT L tx f (skB L tx q) rd = ((skB L tx q, 0, 0), rd) := by
      cases f with
      | zero => rfl
      | succ f => rw [prS, if_neg (by omega)]
    rw [ep, eS, eA]
    refine ⟨nI 1, mS ρ (skB L tx q) (skB L tx q) (-1) (toF L tx q) (toV L tx q), fun Q => ?_, fun _ => ⟨rfl, ρ, _, _, _, _, rfl, fr_0, hR⟩, fun w => absurd rfl w⟩
    rw [w143_37]
    simp only [w143_0, w143_1, w143_2, w143_3, w143_5, w143_8, w143_9, w143_12, w143_13, w143_14, w143_15, w143_18, w143_21, w143_22, w143_23, w143_26, w143_27, w143_28, w143_31, w143_32, w143_33, w143_34, w143_38, w143_41, w143_44, w143_45, w143_48, w143_49, w143_52, w143_53, w143_54, w143_57, w143_58, w143_61, w143_65, w143_66, w143_69, w143_70, w143_73, w143_74, w143_75, w143_78, w143_81, w143_83, w143_84, w143_87, w143_88, w143_89, w143_90, w143_93, w143_94, w143_95, w143_98, w143_99, w143_101, w143_104, w143_105, w143_108, w143_109, w143_112, w143_113, w143_114, ks_118, m_18, (by decide : (-1 : Int32) < nI 0), ↓reduceIte, Option.toList_some, Option.toList_none, List.cons_append, List.nil_append]
  intro f
  induction f with
  | zero =>
    intro q ρ rd hL2 hq hT hR hw
    exact fin 0 q ρ rd (Or.inl rfl) (by omega) hR
  | succ f ih =>
    intro q ρ rd hL2 hq hT hR hw
    by_cases z : skB L tx q < L
    · have hL := hT.1
      obtain ⟨v, τ1, hE, hP⟩ := m_clause hT hR hw z
      have hs : ¬ toS L tx q < nI 0 := by
        unfold toS
        split
        · decide
        · rw [show ltI L tx (skB L tx q) = nI (tx (skB L tx q)) from if_pos z]
          exact nI_pos (by have := hT.2.1 _ z; omega)
      rw [prS, if_pos z]
      have run : ∀ Q, Wq none 143 37 [some (.ref (118 : Nat)), some (.int (nI 1))] [] (mS ρ (toA L tx q) (skB L tx q) (toS L tx q) (toF L tx q) (toV L tx q)) Q = Wq none 143 52 [some (.ref (118 : Nat)), some (.int (nI 1))] [.int v] τ1 Q := by
        intro Q
        rw [w143_37]
        simp only [w143_0, w143_1, w143_2, w143_3, w143_5, w143_8, w143_9, w143_12, w143_13, w143_14, w143_15, w143_18, w143_21, w143_22, w143_23, w143_26, w143_27, w143_28, w143_31, w143_32, w143_33, w143_34, w143_38, w143_41, w143_44, w143_45, w143_48, w143_49, w143_53, w143_54, w143_57, w143_58, w143_61, w143_65, w143_66, w143_69, w143_70, w143_73, w143_74, w143_75, w143_78, w143_81, w143_83, w143_84, w143_87, w143_88, w143_89, w143_90, w143_93, w143_94, w143_95, w143_98, w143_99, w143_101, w143_104, w143_105, w143_108, w143_109, w143_112, w143_113, w143_114, ks_118, m_18, hs, nI_ne1, fun Q => Cq_of (Q := Q) hE, ↓reduceIte, Option.toList_some, Option.toList_none, List.cons_append, List.nil_append]
      by_cases y : (clT L tx rd (skB L tx q)).1.2.1 = 0
      · rw [if_pos y]
        obtain ⟨hv, ρ', b, sg, fg, vl, e, hfr, hRD⟩ := hP.1 y
        have hg := clT_gt y
        subst hv
        subst e
        have hT1 : mTX L tx ρ' := mTX_k (fun a b z => hfr a b (by omega)) hT
        have hb := skB_le (L := L) (tx := tx) (clT L tx rd (skB L tx q)).1.1
        obtain ⟨v2, τ2, hr, hp2⟩ := ih (clT L tx rd (skB L tx q)).1.1 ρ' (clT L tx rd (skB L tx q)).2 (by omega) (by omega) hT1 hRD (clT_W hw y)
        refine ⟨v2, τ2, fun Q => ?_, MPo_e hfr hp2⟩
        rw [run, ← hr Q]
        simp only [w143_0, w143_1, w143_2, w143_3, w143_5, w143_8, w143_9, w143_12, w143_13, w143_14, w143_15, w143_18, w143_21, w143_22, w143_23, w143_26, w143_27, w143_28, w143_31, w143_32, w143_33, w143_34, w143_38, w143_41, w143_44, w143_45, w143_48, w143_49, w143_52, w143_53, w143_54, w143_57, w143_58, w143_61, w143_65, w143_66, w143_69, w143_70, w143_73, w143_74, w143_75, w143_78, w143_81, w143_83, w143_84, w143_87, w143_88, w143_89, w143_90, w143_93, w143_94, w143_95, w143_98, w143_99, w143_101, w143_104, w143_105, w143_108, w143_109, w143_112, w143_113, w143_114, ks_118, nI_ne1, c_mstep hT1 (show (clT L tx rd (skB L tx q)).1.1 ≤ 300 by omega), ↓reduceIte, Option.toList_some, Option.toList_none, List.cons_append, List.nil_append]
      · rw [if_neg y]
        obtain ⟨hv, h21, h17, ⟨x, h18⟩, hfr⟩ := hP.2 y
        subst hv
        refine ⟨nI 0, τ1, fun Q => ?_, hP⟩
        rw [run]
        by_cases hx : x < nI 0
        · simp only [w143_0, w143_1, w143_2, w143_3, w143_5, w143_8, w143_9, w143_12, w143_13, w143_14, w143_15, w143_18, w143_21, w143_22, w143_23, w143_26, w143_27, w143_28, w143_31, w143_32, w143_33, w143_34, w143_37, w143_38, w143_41, w143_44, w143_45, w143_48, w143_49, w143_52, w143_53, w143_54, w143_57, w143_58, w143_61, w143_65, w143_66, w143_69, w143_70, w143_73, w143_74, w143_75, w143_78, w143_81, w143_83, w143_84, w143_87, w143_88, w143_89, w143_90, w143_93, w143_94, w143_95, w143_98, w143_99, w143_101, w143_104, w143_105, w143_108, w143_109, w143_112, w143_113, w143_114, ks_118, h18, hx, ↓reduceIte, Option.toList_some, Option.toList_none, List.cons_append, List.nil_append]
        · simp only [w143_0, w143_1, w143_2, w143_3, w143_5, w143_8, w143_9, w143_12, w143_13, w143_14, w143_15, w143_18, w143_21, w143_22, w143_23, w143_26, w143_27, w143_28, w143_31, w143_32, w143_33, w143_34, w143_37, w143_38, w143_41, w143_44, w143_45, w143_48, w143_49, w143_52, w143_53, w143_54, w143_57, w143_58, w143_61, w143_65, w143_66, w143_69, w143_70, w143_73, w143_74, w143_75, w143_78, w143_81, w143_83, w143_84, w143_87, w143_88, w143_89, w143_90, w143_93, w143_94, w143_95, w143_98, w143_99, w143_101, w143_104, w143_105, w143_108, w143_109, w143_112, w143_113, w143_114, ks_118, h18, hx, ↓reduceIte, Option.toList_some, Option.toList_none, List.cons_append, List.nil_append]
    · exact fin (f + 1) q ρ rd (Or.inr z) (by omega) hR
end MX
