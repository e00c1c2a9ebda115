/-! the text: the reference reads it all -/
def zlo (σ : dm_G) (k n : Nat) : dm_G := fun a b => if a = k ∧ b < n then .int (nI 0) else σ a b
theorem zlo_o {σ : dm_G} {k n a b : Nat} (h : ¬ a = k) : zlo σ k n a b = σ a b := if_neg (fun z => h z.1)
theorem zlo_S {σ : dm_G} {k n : Nat} : dm_up (zlo σ k n) k n (.int (nI 0)) = zlo σ k (n + 1) := by
  funext a b
  rw [up_get]
  unfold zlo
  by_cases h : a = k
  · by_cases h2 : b = n
    · rw [if_pos ⟨h, h2⟩, if_pos ⟨h, by omega⟩]
    · rw [if_neg (fun z => h2 z.2)]
      by_cases h3 : b < n
      · rw [if_pos ⟨h, h3⟩, if_pos ⟨h, by omega⟩]
      · rw [if_neg (fun z => h3 z.2), if_neg (by omega)]
  · rw [if_neg (fun z => h z.1), if_neg (fun z => h z.1), if_neg (fun z => h z.1)]
section MX
variable {L : Nat} {tx : Nat → Nat} {ρ : dm_G} {rd : Nat → Nat} {Q : Option Value → dm_G → Prop}
theorem mTX_k {σ : dm_G} (hk : ∀ a b, (a = 118 ∧ (b = 9 ∨ b = 8 ∨ b = 1)) ∨ a = 125 → σ a b = ρ a b) (h : mTX L tx ρ) : mTX L tx σ := by
  obtain ⟨h1, h2, h3, h4, h5, h6⟩ := h
  exact ⟨h1, h2, (hk _ _ (by omega)).trans h3, (hk _ _ (by omega)).trans h4, (hk _ _ (by omega)).trans h5, fun i hi => (gi_of (hk _ _ (by omega))).trans (h6 i hi)⟩
theorem c_hereG {p : Nat} (hT : mTX L tx ρ) (h16 : ρ 118 16 = .int (nI p)) (hp : p < 2 ^ 30) : Cq 133 [(.ref (118 : Nat))] ρ Q = Q (some (.int (ltI L tx p))) ρ := by
  obtain ⟨hL, ht, y9, y8, h1, hx⟩ := hT
  refine Cq_of (Er_of ?_)
  show Wq none 133 0 [some (.ref (118 : Nat))] [] _ _
  unfold ltI
  by_cases z : p < L
  · have n1 : ¬ nI L ≤ nI p := nI_ge z (by omega)
    have y3 := hx p z
    simp only [w133_0, w133_1, w133_4, w133_5, w133_8, w133_11, w133_12, w133_15, w133_16, w133_19, w133_20, w133_23, w133_24, ks_118, h16, y8, y9, n1, kt_125, in_nI (show p < kl 125 by rw [kl_125]; omega) (by rw [kl_125]; omega), nI_clamp (show p < 2 ^ 31 by omega), y3, z, ↓reduceIte, Option.toList_some, Option.toList_none, List.cons_append, List.nil_append, and_self]
  · have n1 : nI L ≤ nI p := nI_le (by omega) (by omega)
    simp only [w133_0, w133_1, w133_4, w133_5, w133_8, w133_11, w133_12, w133_15, w133_16, w133_19, w133_20, w133_23, w133_24, ks_118, h16, y9, n1, z, ↓reduceIte, Option.toList_some, Option.toList_none, List.cons_append, List.nil_append, and_self]
theorem c_here0 {p : Nat} (hT : mTX L tx ρ) (hp : p < 2 ^ 30) : Cq 133 [(.ref (118 : Nat))] (dm_up ρ 118 16 (.int (nI p))) Q = Q (some (.int (ltI L tx p))) (dm_up ρ 118 16 (.int (nI p))) :=
  c_hereG (mTX_k (fun a b z => by rw [up_get, if_neg (by omega)]) hT) rfl hp
theorem c_here1 {p b : Nat} (hT : mTX L tx ρ) (hp : p < 2 ^ 30) : Cq 133 [(.ref (118 : Nat))] (dm_up (dm_up ρ 118 16 (.int (nI p))) 118 17 (.int (nI b))) Q = Q (some (.int (ltI L tx p))) (dm_up (dm_up ρ 118 16 (.int (nI p))) 118 17 (.int (nI b))) :=
  c_hereG (mTX_k (fun a b z => by rw [up_get, if_neg (by omega), up_get, if_neg (by omega)]) hT) rfl hp
theorem l_st0 (hT : mTX L tx ρ) : ∀ (f p : Nat), L ≤ p + f → p + f < 2 ^ 29 → Wq none 134 0 [some (.ref (118 : Nat))] [] (dm_up ρ 118 16 (.int (nI p))) Q = Wq none 134 22 [some (.ref (118 : Nat))] [] (dm_up ρ 118 16 (.int (nI (runN (isB L tx) f p)))) Q := by
  intro f
  induction f with
  | zero =>
    intro p h1 h2
    have z : ¬ ltI L tx p = nI 32 := fun z => by
      have := isB_L p ((lt_32 hT.2.1).mp z)
      omega
    rw [w134_0]
    simp only [w134_1, w134_4, w134_6, w134_9, w134_10, w134_10i, w134_11, w134_14, w134_15, w134_16, w134_19, w134_23, w134_24, w134_27, w134_30, w134_31, w134_32, w134_35, w134_38, w134_39, w134_40, w134_43, w134_44, w134_45, w134_48, w134_49, w134_52, w134_53, w134_56, w134_59, w134_62, w134_65, w134_66, w134_66i, w134_67, w134_70, w134_71, w134_74, w134_77, w134_78, w134_81, w134_82, w134_83, w134_86, w134_87, w134_88, w134_90, w134_93, w134_94, w134_97, w134_98, w134_101, w134_104, w134_107, w134_110, w134_111, w134_112, w134_115, w134_116, w134_119, w134_121, w134_122, w134_125, w134_126, w134_127, w134_130, w134_131, w134_133, w134_134, w134_137, w134_138, w134_141, w134_144, w134_145, w134_145i, w134_146, w134_149, w134_150, w134_151, w134_154, w134_155, w134_155i, w134_156, w134_159, w134_160, w134_161, w134_164, w134_167, ks_118, c_here0 hT (show p < 2 ^ 30 by omega), z, ↓reduceIte, Option.toList_some, Option.toList_none, List.cons_append, List.nil_append]
    rfl
  | succ f ih =>
    intro p h1 h2
    have e16 : dm_up ρ 118 16 (.int (nI p)) 118 16 = .int (nI p) := rfl
    rw [w134_0, runS]
    by_cases z : isB L tx p = true
    · rw [if_pos z]
      have y := (lt_32 hT.2.1).mpr z
      simp only [w134_1, w134_4, w134_6, w134_9, w134_10, w134_10i, w134_11, w134_14, w134_15, w134_16, w134_19, w134_23, w134_24, w134_27, w134_30, w134_31, w134_32, w134_35, w134_38, w134_39, w134_40, w134_43, w134_44, w134_45, w134_48, w134_49, w134_52, w134_53, w134_56, w134_59, w134_62, w134_65, w134_66, w134_66i, w134_67, w134_70, w134_71, w134_74, w134_77, w134_78, w134_81, w134_82, w134_83, w134_86, w134_87, w134_88, w134_90, w134_93, w134_94, w134_97, w134_98, w134_101, w134_104, w134_107, w134_110, w134_111, w134_112, w134_115, w134_116, w134_119, w134_121, w134_122, w134_125, w134_126, w134_127, w134_130, w134_131, w134_133, w134_134, w134_137, w134_138, w134_141, w134_144, w134_145, w134_145i, w134_146, w134_149, w134_150, w134_151, w134_154, w134_155, w134_155i, w134_156, w134_159, w134_160, w134_161, w134_164, w134_167, ks_118, c_here0 hT (show p < 2 ^ 30 by omega), y, e16, nI_add, up_up, ↓reduceIte, Option.toList_some, Option.toList_none, List.cons_append, List.nil_append]
      exact ih (p + 1) (by omega) (by omega)
    · rw [if_neg z]
      have y : ¬ ltI L tx p = nI 32 := fun w => z ((lt_32 hT.2.1).mp w)
      simp only [w134_1, w134_4, w134_6, w134_9, w134_10, w134_10i, w134_11, w134_14, w134_15, w134_16, w134_19, w134_23, w134_24, w134_27, w134_30, w134_31, w134_32, w134_35, w134_38, w134_39, w134_40, w134_43, w134_44, w134_45, w134_48, w134_49, w134_52, w134_53, w134_56, w134_59, w134_62, w134_65, w134_66, w134_66i, w134_67, w134_70, w134_71, w134_74, w134_77, w134_78, w134_81, w134_82, w134_83, w134_86, w134_87, w134_88, w134_90, w134_93, w134_94, w134_97, w134_98, w134_101, w134_104, w134_107, w134_110, w134_111, w134_112, w134_115, w134_116, w134_119, w134_121, w134_122, w134_125, w134_126, w134_127, w134_130, w134_131, w134_133, w134_134, w134_137, w134_138, w134_141, w134_144, w134_145, w134_145i, w134_146, w134_149, w134_150, w134_151, w134_154, w134_155, w134_155i, w134_156, w134_159, w134_160, w134_161, w134_164, w134_167, ks_118, c_here0 hT (show p < 2 ^ 30 by omega), y, ↓reduceIte, Option.toList_some, Option.toList_none, List.cons_append, List.nil_append]
theorem mS_mk {a b fg vl : Nat} {sg : Int32} : dm_up (dm_up (dm_up (dm_up (dm_up ρ 118 16 (.int (nI a))) 118 17 (.int (nI b))) 118 18 (.int sg)) 118 19 (.int (nI fg))) 118 20 (.int (nI vl)) = mS ρ a b sg fg vl := rfl
theorem c_step0 {p : Nat} (hT : mTX L tx ρ) (hp : p ≤ 300) : Cq 134 [(.ref (118 : Nat))] (dm_up ρ 118 16 (.int (nI p))) Q = Q none (mS ρ (toA L tx p) (skB L tx p) (toS L tx p) (toF L tx p) (toV L tx p)) := by
  have hL := hT.1
  have hb := skB_le (L := L) (tx := tx) p
  have e16 : ∀ q, dm_up ρ 118 16 (.int (nI q)) 118 16 = .int (nI q) := fun q => rfl
  refine Cq_of (Er_of ?_)
  show Wq none 134 0 [some (.ref (118 : Nat))] [] _ _
  rw [l_st0 hT L p (by omega) (by omega)]
  show Wq none 134 22 [some (.ref (118 : Nat))] [] (dm_up ρ 118 16 (.int (nI (skB L tx p)))) _
  unfold toA toS toF toV
  by_cases z : isF L tx (skB L tx p) = true
  · rw [if_pos z, if_pos z, if_pos z, if_pos z]
    simp only [w134_1, w134_4, w134_6, w134_9, w134_10, w134_10i, w134_11, w134_14, w134_15, w134_16, w134_19, w134_22, w134_23, w134_24, w134_27, w134_30, w134_31, w134_32, w134_35, w134_38, w134_39, w134_40, w134_43, w134_44, w134_45, w134_48, w134_49, w134_52, w134_53, w134_56, w134_59, w134_62, w134_65, w134_66, w134_66i, w134_67, w134_70, w134_71, w134_74, w134_77, w134_78, w134_81, w134_82, w134_83, w134_86, w134_87, w134_88, w134_90, w134_94, w134_97, w134_98, w134_101, w134_104, w134_107, w134_110, w134_111, w134_112, w134_115, w134_116, w134_119, w134_121, w134_122, w134_125, w134_126, w134_127, w134_130, w134_131, w134_133, w134_134, w134_137, w134_138, w134_141, w134_144, w134_145, w134_145i, w134_146, w134_149, w134_150, w134_151, w134_154, w134_155, w134_155i, w134_156, w134_159, w134_160, w134_161, w134_164, w134_167, ks_118, c_here1 hT (show skB L tx p < 2 ^ 30 by omega), e16, mS_mk, m_18, c_in, in_fig hT.2.1, z, nI_ne1, mS_sg, ↓reduceIte, Option.toList_some, Option.toList_none, List.cons_append, List.nil_append, and_self]
    rw [l_st2 hT L (skB L tx p) 0 0 (by omega) (by omega) (by omega), Nat.zero_add]
    exact ⟨rfl, rfl⟩
  · rw [if_neg z, if_neg z, if_neg z, if_neg z]
    by_cases y : skB L tx p < L
    · rw [if_pos y]
      have el : ltI L tx (skB L tx p) = nI (tx (skB L tx p)) := if_pos y
      have h0 : nI 0 ≤ nI (tx (skB L tx p)) := nI_le (by omega) (by have := hT.2.1 _ y; omega)
      have hin : ¬ (lN 48 ≤ (ltI L tx (skB L tx p)).toInt64 ∧ (ltI L tx (skB L tx p)).toInt64 ≤ lN 57) := fun w => z ((in_fig (p := skB L tx p) hT.2.1).mp w)
      rw [el] at hin
      simp only [w134_1, w134_4, w134_6, w134_9, w134_10, w134_10i, w134_11, w134_14, w134_15, w134_16, w134_19, w134_22, w134_23, w134_24, w134_27, w134_30, w134_31, w134_32, w134_35, w134_38, w134_39, w134_40, w134_43, w134_44, w134_45, w134_48, w134_49, w134_52, w134_53, w134_56, w134_59, w134_62, w134_65, w134_66, w134_66i, w134_67, w134_70, w134_71, w134_74, w134_77, w134_78, w134_81, w134_82, w134_83, w134_86, w134_87, w134_88, w134_90, w134_94, w134_97, w134_98, w134_101, w134_104, w134_107, w134_110, w134_111, w134_112, w134_115, w134_116, w134_119, w134_121, w134_122, w134_125, w134_126, w134_127, w134_130, w134_131, w134_133, w134_134, w134_137, w134_138, w134_141, w134_144, w134_145, w134_145i, w134_146, w134_149, w134_150, w134_151, w134_154, w134_155, w134_155i, w134_156, w134_159, w134_160, w134_161, w134_164, w134_167, ks_118, c_here1 hT (show skB L tx p < 2 ^ 30 by omega), e16, mS_mk, m_16, m_18, c_in, el, hin, h0, nI_add, mS_at, ↓reduceIte, Option.toList_some, Option.toList_none, List.cons_append, List.nil_append, and_self]
    · rw [if_neg y]
      have el : ltI L tx (skB L tx p) = -1 := if_neg y
      have h0 : ¬ nI 0 ≤ (-1 : Int32) := by decide
      have hin : ¬ (lN 48 ≤ (ltI L tx (skB L tx p)).toInt64 ∧ (ltI L tx (skB L tx p)).toInt64 ≤ lN 57) := fun w => z ((in_fig (p := skB L tx p) hT.2.1).mp w)
      rw [el] at hin
      simp only [w134_1, w134_4, w134_6, w134_9, w134_10, w134_10i, w134_11, w134_14, w134_15, w134_16, w134_19, w134_22, w134_23, w134_24, w134_27, w134_30, w134_31, w134_32, w134_35, w134_38, w134_39, w134_40, w134_43, w134_44, w134_45, w134_48, w134_49, w134_52, w134_53, w134_56, w134_59, w134_62, w134_65, w134_66, w134_66i, w134_67, w134_70, w134_71, w134_74, w134_77, w134_78, w134_81, w134_82, w134_83, w134_86, w134_87, w134_88, w134_90, w134_94, w134_97, w134_98, w134_101, w134_104, w134_107, w134_110, w134_111, w134_112, w134_115, w134_116, w134_119, w134_121, w134_122, w134_125, w134_126, w134_127, w134_130, w134_131, w134_133, w134_134, w134_137, w134_138, w134_141, w134_144, w134_145, w134_145i, w134_146, w134_149, w134_150, w134_151, w134_154, w134_155, w134_155i, w134_156, w134_159, w134_160, w134_161, w134_164, w134_167, ks_118, c_here1 hT (show skB L tx p < 2 ^ 30 by omega), e16, mS_mk, m_16, m_18, c_in, el, hin, h0, nI_add, Nat.add_zero, mS_at, ↓reduceIte, Option.toList_some, Option.toList_none, List.cons_append, List.nil_append, and_self]
theorem l_mread : ∀ (f q : Nat) (ρ : dm_G) (rd : Nat → Nat), L ≤ skB L tx q + f → q ≤ 240 → mTX L tx ρ → RD ρ rd → DW rd →
    ∃ v τ, (∀ Q, Wq none 144 37 [some (.ref (118 : Nat)), some (.int (nI 1))] [] (mS ρ (toA L tx q) (skB L tx q) (toS L tx q) (toF L tx q) (toV L tx q)) Q = Wq none 144 64 [some (.ref (118 : Nat)), some (.int v)] [] τ Q) ∧ MPo ρ (prT L tx f (skB L tx q) rd) v τ := by
  have fin : ∀ (f q : Nat) (ρ : dm_G) (rd : Nat → Nat), (f = 0 ∨ ¬ skB L tx q < L) → L ≤ skB L tx q → RD ρ rd →
    ∃ v τ, (∀ Q, Wq none 144 37 [some (.ref (118 : Nat)), some (.int (nI 1))] [] (mS ρ (toA L tx q) (skB L tx q) (toS L tx q) (toF L tx q) (toV L tx q)) Q = Wq none 144 64 [some (.ref (118 : Nat)), some (.int v)] [] τ Q) ∧ MPo ρ (prT L tx f (skB L tx q) rd) v τ := by
    intro f q ρ rd hf hq hR
    have z : ¬ isF L tx (skB L tx q) = true := fun z => by have := isF_L _ z; omega
    have eS : toS L tx q = -1 := (if_neg z).trans (if_neg (by omega))
    have eA : toA L tx q = skB L tx q := (if_neg z).trans (if_neg (by omega))
    have ep : prT L tx f (skB L tx q) rd = ((skB L tx q, 0, 0), rd) := by
      cases f with
      | zero => rfl
      | succ f => rw [prS, if_neg (by omega)]
    rw [ep, eS, eA]
    refine ⟨nI 1, mS ρ (skB L tx q) (skB L tx q) (-1) (toF L tx q) (toV L tx q), fun Q => ?_, fun _ => ⟨rfl, ρ, _, _, _, _, rfl, fr_0, hR⟩, fun w => absurd rfl w⟩
    rw [w144_37]
    simp only [w144_0, w144_1, w144_2, w144_3, w144_5, w144_8, w144_9, w144_12, w144_13, w144_14, w144_15, w144_18, w144_21, w144_22, w144_23, w144_26, w144_27, w144_28, w144_31, w144_32, w144_33, w144_34, w144_38, w144_41, w144_44, w144_45, w144_48, w144_49, w144_52, w144_53, w144_54, w144_57, w144_58, w144_61, w144_65, w144_66, w144_69, w144_70, w144_73, w144_74, w144_75, w144_78, w144_81, w144_83, w144_84, w144_87, w144_88, w144_89, w144_90, w144_93, w144_94, w144_95, w144_98, w144_99, w144_101, w144_104, w144_105, w144_108, w144_109, w144_112, w144_113, w144_114, ks_118, m_18, (by decide : (-1 : Int32) < nI 0), ↓reduceIte, Option.toList_some, Option.toList_none, List.cons_append, List.nil_append]
  intro f
  induction f with
  | zero =>
    intro q ρ rd hL2 hq hT hR hw
    exact fin 0 q ρ rd (Or.inl rfl) (by omega) hR
  | succ f ih =>
    intro q ρ rd hL2 hq hT hR hw
    by_cases z : skB L tx q < L
    · have hL := hT.1
      obtain ⟨v, τ1, hE, hP⟩ := m_clause hT hR hw z
      have hs : ¬ toS L tx q < nI 0 := by
        unfold toS
        split
        · decide
        · rw [show ltI L tx (skB L tx q) = nI (tx (skB L tx q)) from if_pos z]
          exact nI_pos (by have := hT.2.1 _ z; omega)
      rw [prS, if_pos z]
      have run : ∀ Q, Wq none 144 37 [some (.ref (118 : Nat)), some (.int (nI 1))] [] (mS ρ (toA L tx q) (skB L tx q) (toS L tx q) (toF L tx q) (toV L tx q)) Q = Wq none 144 52 [some (.ref (118 : Nat)), some (.int (nI 1))] [.int v] τ1 Q := by
        intro Q
        rw [w144_37]
        simp only [w144_0, w144_1, w144_2, w144_3, w144_5, w144_8, w144_9, w144_12, w144_13, w144_14, w144_15, w144_18, w144_21, w144_22, w144_23, w144_26, w144_27, w144_28, w144_31, w144_32, w144_33, w144_34, w144_38, w144_41, w144_44, w144_45, w144_48, w144_49, w144_53, w144_54, w144_57, w144_58, w144_61, w144_65, w144_66, w144_69, w144_70, w144_73, w144_74, w144_75, w144_78, w144_81, w144_83, w144_84, w144_87, w144_88, w144_89, w144_90, w144_93, w144_94, w144_95, w144_98, w144_99, w144_101, w144_104, w144_105, w144_108, w144_109, w144_112, w144_113, w144_114, ks_118, m_18, hs, nI_ne1, fun Q => Cq_of (Q := Q) hE, ↓reduceIte, Option.toList_some, Option.toList_none, List.cons_append, List.nil_append]
      by_cases y : (clT L tx rd (skB L tx q)).1.2.1 = 0
      · rw [if_pos y]
        obtain ⟨hv, ρ', b, sg, fg, vl, e, hfr, hRD⟩ := hP.1 y
        have hg := clT_gt y
        subst hv
        subst e
        have hT1 : mTX L tx ρ' := mTX_k (fun a b z => hfr a b (by omega)) hT
        have hb := skB_le (L := L) (tx := tx) (clT L tx rd (skB L tx q)).1.1
        obtain ⟨v2, τ2, hr, hp2⟩ := ih (clT L tx rd (skB L tx q)).1.1 ρ' (clT L tx rd (skB L tx q)).2 (by omega) (by omega) hT1 hRD (clT_W hw y)
        refine ⟨v2, τ2, fun Q => ?_, MPo_e hfr hp2⟩
        rw [run, ← hr Q]
        simp only [w144_0, w144_1, w144_2, w144_3, w144_5, w144_8, w144_9, w144_12, w144_13, w144_14, w144_15, w144_18, w144_21, w144_22, w144_23, w144_26, w144_27, w144_28, w144_31, w144_32, w144_33, w144_34, w144_38, w144_41, w144_44, w144_45, w144_48, w144_49, w144_52, w144_53, w144_54, w144_57, w144_58, w144_61, w144_65, w144_66, w144_69, w144_70, w144_73, w144_74, w144_75, w144_78, w144_81, w144_83, w144_84, w144_87, w144_88, w144_89, w144_90, w144_93, w144_94, w144_95, w144_98, w144_99, w144_101, w144_104, w144_105, w144_108, w144_109, w144_112, w144_113, w144_114, ks_118, nI_ne1, c_mstep hT1 (show (clT L tx rd (skB L tx q)).1.1 ≤ 300 by omega), ↓reduceIte, Option.toList_some, Option.toList_none, List.cons_append, List.nil_append]
      · rw [if_neg y]
        obtain ⟨hv, h21, h17, ⟨x, h18⟩, hfr⟩ := hP.2 y
        subst hv
        refine ⟨nI 0, τ1, fun Q => ?_, hP⟩
        rw [run]
        by_cases hx : x < nI 0
        · simp only [w144_0, w144_1, w144_2, w144_3, w144_5, w144_8, w144_9, w144_12, w144_13, w144_14, w144_15, w144_18, w144_21, w144_22, w144_23, w144_26, w144_27, w144_28, w144_31, w144_32, w144_33, w144_34, w144_37, w144_38, w144_41, w144_44, w144_45, w144_48, w144_49, w144_52, w144_53, w144_54, w144_57, w144_58, w144_61, w144_65, w144_66, w144_69, w144_70, w144_73, w144_74, w144_75, w144_78, w144_81, w144_83, w144_84, w144_87, w144_88, w144_89, w144_90, w144_93, w144_94, w144_95, w144_98, w144_99, w144_101, w144_104, w144_105, w144_108, w144_109, w144_112, w144_113, w144_114, ks_118, h18, hx, ↓reduceIte, Option.toList_some, Option.toList_none, List.cons_append, List.nil_append]
        · simp only [w144_0, w144_1, w144_2, w144_3, w144_5, w144_8, w144_9, w144_12, w144_13, w144_14, w144_15, w144_18, w144_21, w144_22, w144_23, w144_26, w144_27, w144_28, w144_31, w144_32, w144_33, w144_34, w144_37, w144_38, w144_41, w144_44, w144_45, w144_48, w144_49, w144_52, w144_53, w144_54, w144_57, w144_58, w144_61, w144_65, w144_66, w144_69, w144_70, w144_73, w144_74, w144_75, w144_78, w144_81, w144_83, w144_84, w144_87, w144_88, w144_89, w144_90, w144_93, w144_94, w144_95, w144_98, w144_99, w144_101, w144_104, w144_105, w144_108, w144_109, w144_112, w144_113, w144_114, ks_118, h18, hx, ↓reduceIte, Option.toList_some, Option.toList_none, List.cons_append, List.nil_append]
    · exact fin (f + 1) q ρ rd (Or.inr z) (by omega) hR
end MX
