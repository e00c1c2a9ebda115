/-! the search: the reference's side, and both calls -/
section W2
variable {σ : dm_G} {c : Nat → Nat} {P D : Nat} {Q : Option Value → dm_G → Prop}
theorem c_isEnd {s : Nat} {x : Option Nat} (hs : s < 256) (hx : ∀ k, x = some k → k < 8) : Cq 188 [.int (nI s), .int (oI x)] σ Q = Q (some (.int (if isE x s = true then nI 1 else nI 0))) σ := by
  refine Cq_of (Er_of ?_)
  show Wq none 188 0 [some (.int (nI s)), some (.int (oI x))] [] σ _
  unfold isE
  have e0 : nI s = nI 0 ↔ s = 0 := nI_eq (by omega) (by omega)
  have hpc := pc_le s
  have e1 : nI (pcN s) = nI 1 ↔ pcN s = 1 := nI_eq (by omega) (by omega)
  by_cases z : s = 0
  · simp only [w188_0, w188_1, w188_4, w188_5, w188_6, w188_9, w188_10, w188_13, w188_14, w188_17, w188_20, w188_21, w188_22, w188_23, w188_24, w188_27, w188_28, w188_31, w188_32, e0, z, decide_true, Bool.true_or, (by decide : nI 1 &&& 1 = nI 1), (by decide : nI 0 &&& 1 = nI 0), ↓reduceIte, Option.toList_some, Option.toList_none, List.cons_append, List.nil_append, and_self]
  · cases x with
    | none =>
      by_cases y : pcN s = 1
      · simp only [w188_0, w188_1, w188_4, w188_5, w188_6, w188_9, w188_10, w188_13, w188_14, w188_17, w188_20, w188_21, w188_22, w188_23, w188_24, w188_27, w188_28, w188_31, w188_32, e0, z, oI, c_bits hs, e1, y, decide_false, decide_true, Bool.false_or, (by decide : nI 1 &&& 1 = nI 1), (by decide : nI 0 &&& 1 = nI 0), ↓reduceIte, Option.toList_some, Option.toList_none, List.cons_append, List.nil_append, and_self]
      · simp only [w188_0, w188_1, w188_4, w188_5, w188_6, w188_9, w188_10, w188_13, w188_14, w188_17, w188_20, w188_21, w188_22, w188_23, w188_24, w188_27, w188_28, w188_31, w188_32, e0, z, oI, c_bits hs, e1, y, decide_false, Bool.false_or, (by decide : nI 1 &&& 1 = nI 1), (by decide : nI 0 &&& 1 = nI 0), ↓reduceIte, Option.toList_some, Option.toList_none, List.cons_append, List.nil_append, and_self, Bool.false_eq_true]
    | some k =>
      have hk := hx k rfl
      have hk8 : 1 <<< k < 2 ^ 8 := one_shl hk
      have hm1 : ¬ nI k = -1 := fun q => nI_m1 (show k < 2 ^ 31 by omega) q.symm
      have e2 : nI s = nI (1 <<< k) ↔ s = 1 <<< k := nI_eq (by omega) (by omega)
      by_cases y : s = 1 <<< k
      · have z' : ¬ 1 <<< k = 0 := by rw [← y]; exact z
        have e0' : nI (1 <<< k) = nI 0 ↔ 1 <<< k = 0 := nI_eq (by omega) (by omega)
        subst y
        simp only [w188_0, w188_1, w188_4, w188_5, w188_6, w188_9, w188_10, w188_13, w188_14, w188_17, w188_20, w188_21, w188_22, w188_23, w188_24, w188_27, w188_28, w188_31, w188_32, e0', z', oI, hm1, nI_shl 1 (show k < 32 by omega), decide_false, decide_true, Bool.false_or, (by decide : nI 1 &&& 1 = nI 1), (by decide : nI 0 &&& 1 = nI 0), ↓reduceIte, Option.toList_some, Option.toList_none, List.cons_append, List.nil_append, and_self]
      · simp only [w188_0, w188_1, w188_4, w188_5, w188_6, w188_9, w188_10, w188_13, w188_14, w188_17, w188_20, w188_21, w188_22, w188_23, w188_24, w188_27, w188_28, w188_31, w188_32, e0, z, oI, hm1, nI_shl 1 (show k < 32 by omega), e2, y, decide_false, Bool.false_or, (by decide : nI 1 &&& 1 = nI 1), (by decide : nI 0 &&& 1 = nI 0), ↓reduceIte, Option.toList_some, Option.toList_none, List.cons_append, List.nil_append, and_self, Bool.false_eq_true]
/-- the reference's cells hold the search's state -/
def wM (ρ : dm_G) (S : WS) : Prop := (∀ i, i < S.2.2.2 → gi ρ 133 i = nI (S.1 i)) ∧ (∀ r, r < 256 → gi ρ 134 r = oI (S.2.1 r)) ∧ ∀ r, r < 256 → S.2.1 r ≠ none → gi ρ 135 r = nI (S.2.2.1 r)
theorem wM_A {ρ : dm_G} {S : WS} {r d f : Nat} (hS : wM ρ S) (hr : r < 256) : wM (dm_up (dm_up (dm_up ρ 134 r (.int (nI d))) 135 r (.int (nI f))) 133 S.2.2.2 (.int (nI r))) (wvA S r d f) := by
  obtain ⟨s4, s5, s6⟩ := hS
  refine ⟨fun i hi => ?_, fun r' hr' => ?_, fun r' hr' hn => ?_⟩
  · show gi _ 133 i = nI (up1 S.1 S.2.2.2 r i)
    have hi : i < S.2.2.2 + 1 := hi
    rw [gi_up]
    by_cases z : i = S.2.2.2
    · rw [if_pos ⟨rfl, z⟩, z, up1_eq]
    · rw [if_neg (fun w => z w.2), up1_ne z, gi_up, if_neg (by omega), gi_up, if_neg (by omega)]
      exact s4 i (by omega)
  · show gi _ 134 r' = oI (upO S.2.1 r d r')
    rw [gi_up, if_neg (by omega), gi_up, if_neg (by omega), gi_up]
    unfold upO
    by_cases z : r' = r
    · rw [if_pos ⟨rfl, z⟩, if_pos z]
      rfl
    · rw [if_neg (fun w => z w.2), if_neg z]
      exact s5 r' hr'
  · show gi _ 135 r' = nI (up1 S.2.2.1 r f r')
    have hn : upO S.2.1 r d r' ≠ none := hn
    rw [gi_up, if_neg (by omega), gi_up]
    by_cases z : r' = r
    · rw [if_pos ⟨rfl, z⟩, z, up1_eq]
    · rw [if_neg (fun w => z w.2), up1_ne z, gi_up, if_neg (by omega)]
      unfold upO at hn
      rw [if_neg z] at hn
      exact s6 r' hr' hn
theorem l_mwT {ρ : dm_G} {S : WS} {is d t k s fig : Nat} {x : Option Nat} {v8 : Option Value} (hM : MR σ) (hc : MC σ c) (hw : WC c) (hk : (∀ a, ¬ (132 < a ∧ a < 136) → ρ a = σ a)) (hS : wM ρ S) (hI : wI c S) (hi : is < 2 ^ c 0) (hd : S.2.1 is = some d) (hd9 : d < 9) (ht : t < 3) : ∃ ρ' u8, (∀ Q : Option Value → dm_G → Prop, Wq none 189 102 [some (.ref (118 : Nat)), some (.int (nI s)), some (.int (oI x)), some (.int (nI fig)), some (.int (nI S.2.2.2)), some (.int (nI k)), some (.int (nI is)), some (.int (nI t)), v8] [] ρ Q = Wq none 189 102 [some (.ref (118 : Nat)), some (.int (nI s)), some (.int (oI x)), some (.int (nI fig)), some (.int (nI (wvT c is d t S).2.2.2)), some (.int (nI k)), some (.int (nI is)), some (.int (nI (t + 1))), u8] [] ρ' Q) ∧ wM ρ' (wvT c is d t S) ∧ ∀ a, ¬ (132 < a ∧ a < 136) → ρ' a = σ a := by
  have p8 : 2 ^ c 0 ≤ 2 ^ 8 := Nat.pow_le_pow_right (by decide) hw.1
  have hM' : MR ρ := MR_of (hk 118 (by omega)) hM
  have hc' : MC ρ c := MC_of (hk 119 (by omega)) hc
  obtain ⟨m0, m1, m2, m3, m5, m6, m8, m11, m12, m14, m22, m23, m24, m25, m29, m30, m31, m32⟩ := id hM'
  obtain ⟨s4, s5, s6⟩ := id hS
  have ht3 : ¬ nI 3 ≤ nI t := nI_ge ht (by omega)
  have h9 : ¬ nI 9 ≤ nI d := nI_ge hd9 (by omega)
  have hr := endsN_lt (s := is) hw ht (c 0) (Nat.le_refl _)
  have ea := s5 (endsN c is t (c 0)) (by omega)
  have eb := s5 is (by omega)
  rw [hd] at eb
  have ec := s6 is (by omega) (by rw [hd]; exact fun w => by cases w)
  unfold wvT
  cases hn : S.2.1 (endsN c is t (c 0)) with
  | none =>
    rw [hn] at ea
    have hne : endsN c is t (c 0) ≠ is := fun w => by rw [w, hd] at hn; cases hn
    have hlt := wI_lt hI (show endsN c is t (c 0) < 256 by omega) hn
    let ρ1 : dm_G := dm_up ρ 134 (endsN c is t (c 0)) (.int (nI (d + 1)))
    let ρ2 : dm_G := dm_up ρ1 135 (endsN c is t (c 0)) (.int (nI (S.2.2.1 is * 10 + t + 1)))
    let ρ3 : dm_G := dm_up ρ2 133 S.2.2.2 (.int (nI (endsN c is t (c 0))))
    have x1 : ρ1 118 31 = (.ref (135 : Nat)) := m31
    have x2 : gi ρ1 135 is = nI (S.2.2.1 is) := ec
    have x3 : ρ2 118 29 = (.ref (133 : Nat)) := m29
    refine ⟨ρ3, some (.int (nI (endsN c is t (c 0)))), fun Q => ?_, by rw [if_pos rfl]; exact wM_A hS (by omega), fun a z => ?_⟩
    · rw [if_pos rfl]
      show _ = Wq none 189 102 [some (.ref (118 : Nat)), some (.int (nI s)), some (.int (oI x)), some (.int (nI fig)), some (.int (nI (S.2.2.2 + 1))), some (.int (nI k)), some (.int (nI is)), some (.int (nI (t + 1))), some (.int (nI (endsN c is t (c 0))))] [] ρ3 Q
      rw [w189_102]
      simp only [w189_0, w189_1, w189_3, w189_5, w189_8, w189_11, w189_12, w189_15, w189_17, w189_18, w189_19, w189_22, w189_25, w189_26, w189_28, w189_29, w189_32, w189_33, w189_34, w189_35, w189_36, w189_39, w189_40, w189_41, w189_42, w189_43, w189_46, w189_47, w189_48, w189_49, w189_50, w189_52, w189_54, w189_56, w189_59, w189_60, w189_63, w189_65, w189_66, w189_68, w189_70, w189_71, w189_74, w189_77, w189_78, w189_81, w189_82, w189_85, w189_87, w189_88, w189_91, w189_92, w189_95, w189_97, w189_98, w189_99, w189_100, w189_104, w189_105, w189_108, w189_109, w189_112, w189_114, w189_115, w189_117, w189_120, w189_121, w189_123, w189_125, w189_128, w189_130, w189_131, w189_134, w189_136, w189_137, w189_138, w189_141, w189_142, w189_145, w189_147, w189_148, w189_151, w189_153, w189_154, w189_155, w189_156, w189_158, w189_161, w189_163, w189_165, w189_166, w189_169, w189_171, w189_172, w189_173, w189_175, w189_176, w189_177, w189_178, w189_179, w189_180, w189_183, w189_185, w189_187, w189_188, w189_191, w189_194, w189_197, w189_200, w189_203, w189_204, ks_118, ht3, m30, kt_134, in_nI (show is < kl 134 by rw [kl_134]; omega) (by rw [kl_134]; omega), nI_clamp (show is < 2 ^ 31 by omega), eb, oIs, h9, c_turnedSet hM' hc' hw (show is < 2 ^ 31 by omega) ht, in_nI (show endsN c is t (c 0) < kl 134 by rw [kl_134]; omega) (by rw [kl_134]; omega), nI_clamp (show endsN c is t (c 0) < 2 ^ 31 by omega), ea, show oI none = -1 from rfl, nI_add d 1, ↓reduceIte, Option.toList_some, Option.toList_none, List.cons_append, List.nil_append]
      show Wq none 189 157 [some (.ref (118 : Nat)), some (.int (nI s)), some (.int (oI x)), some (.int (nI fig)), some (.int (nI S.2.2.2)), some (.int (nI k)), some (.int (nI is)), some (.int (nI t)), some (.int (nI (endsN c is t (c 0))))] [] ρ1 Q = _
      simp only [w189_0, w189_1, w189_3, w189_5, w189_8, w189_11, w189_12, w189_15, w189_17, w189_18, w189_19, w189_22, w189_25, w189_26, w189_28, w189_29, w189_32, w189_33, w189_34, w189_35, w189_36, w189_39, w189_40, w189_41, w189_42, w189_43, w189_46, w189_47, w189_48, w189_49, w189_50, w189_52, w189_54, w189_56, w189_59, w189_60, w189_63, w189_65, w189_66, w189_68, w189_70, w189_71, w189_74, w189_77, w189_78, w189_81, w189_82, w189_85, w189_87, w189_88, w189_91, w189_92, w189_95, w189_97, w189_98, w189_99, w189_100, w189_104, w189_105, w189_108, w189_109, w189_112, w189_114, w189_115, w189_117, w189_120, w189_121, w189_123, w189_125, w189_128, w189_130, w189_131, w189_134, w189_136, w189_137, w189_138, w189_141, w189_142, w189_145, w189_147, w189_148, w189_151, w189_153, w189_154, w189_155, w189_156, w189_157, w189_158, w189_161, w189_163, w189_165, w189_166, w189_169, w189_171, w189_172, w189_173, w189_175, w189_176, w189_177, w189_178, w189_180, w189_183, w189_185, w189_187, w189_188, w189_191, w189_194, w189_197, w189_200, w189_203, w189_204, ks_118, x1, kt_135, in_nI (show is < kl 135 by rw [kl_135]; omega) (by rw [kl_135]; omega), nI_clamp (show is < 2 ^ 31 by omega), x2, in_nI (show endsN c is t (c 0) < kl 135 by rw [kl_135]; omega) (by rw [kl_135]; omega), nI_clamp (show endsN c is t (c 0) < 2 ^ 31 by omega), pk_mul, nI_add, Nat.mul_comm 10 (S.2.2.1 is), ↓reduceIte, Option.toList_some, Option.toList_none, List.cons_append, List.nil_append]
      show Wq none 189 179 [some (.ref (118 : Nat)), some (.int (nI s)), some (.int (oI x)), some (.int (nI fig)), some (.int (nI S.2.2.2)), some (.int (nI k)), some (.int (nI is)), some (.int (nI t)), some (.int (nI (endsN c is t (c 0))))] [] ρ2 Q = _
      simp only [w189_0, w189_1, w189_3, w189_5, w189_8, w189_11, w189_12, w189_15, w189_17, w189_18, w189_19, w189_22, w189_25, w189_26, w189_28, w189_29, w189_32, w189_33, w189_34, w189_35, w189_36, w189_39, w189_40, w189_41, w189_42, w189_43, w189_46, w189_47, w189_48, w189_49, w189_50, w189_52, w189_54, w189_56, w189_59, w189_60, w189_63, w189_65, w189_66, w189_68, w189_70, w189_71, w189_74, w189_77, w189_78, w189_81, w189_82, w189_85, w189_87, w189_88, w189_91, w189_92, w189_95, w189_97, w189_98, w189_99, w189_100, w189_104, w189_105, w189_108, w189_109, w189_112, w189_114, w189_115, w189_117, w189_120, w189_121, w189_123, w189_125, w189_128, w189_130, w189_131, w189_134, w189_136, w189_137, w189_138, w189_141, w189_142, w189_145, w189_147, w189_148, w189_151, w189_153, w189_154, w189_155, w189_156, w189_157, w189_158, w189_161, w189_163, w189_165, w189_166, w189_169, w189_171, w189_172, w189_173, w189_175, w189_176, w189_177, w189_178, w189_179, w189_180, w189_183, w189_185, w189_187, w189_188, w189_191, w189_194, w189_197, w189_200, w189_203, w189_204, ks_118, x3, kt_133, in_nI (show S.2.2.2 < kl 133 by rw [kl_133]; omega) (by rw [kl_133]; omega), nI_clamp (show S.2.2.2 < 2 ^ 31 by omega), nI_add, ↓reduceIte, Option.toList_some, Option.toList_none, List.cons_append, List.nil_append]
      rfl
    · show dm_up (dm_up (dm_up ρ 134 _ _) 135 _ _) 133 _ _ a = _
      rw [up_cell (by omega), up_cell (by omega), up_cell (by omega), hk a z]
  | some e =>
    rw [hn] at ea
    have he := hI.2.1 _ _ hn
    have hm1 : ¬ nI e = -1 := fun q => nI_m1 (show e < 2 ^ 31 by omega) q.symm
    refine ⟨ρ, some (.int (nI (endsN c is t (c 0)))), fun Q => ?_, by rw [if_neg (fun w => by cases w)]; exact hS, hk⟩
    rw [if_neg (fun w => by cases w)]
    rw [w189_102]
    simp only [w189_0, w189_1, w189_3, w189_5, w189_8, w189_11, w189_12, w189_15, w189_17, w189_18, w189_19, w189_22, w189_25, w189_26, w189_28, w189_29, w189_32, w189_33, w189_34, w189_35, w189_36, w189_39, w189_40, w189_41, w189_42, w189_43, w189_46, w189_47, w189_48, w189_49, w189_50, w189_52, w189_54, w189_56, w189_59, w189_60, w189_63, w189_65, w189_66, w189_68, w189_70, w189_71, w189_74, w189_77, w189_78, w189_81, w189_82, w189_85, w189_87, w189_88, w189_91, w189_92, w189_95, w189_97, w189_98, w189_99, w189_100, w189_104, w189_105, w189_108, w189_109, w189_112, w189_114, w189_115, w189_117, w189_120, w189_121, w189_123, w189_125, w189_128, w189_130, w189_131, w189_134, w189_136, w189_137, w189_138, w189_141, w189_142, w189_145, w189_147, w189_148, w189_151, w189_153, w189_154, w189_155, w189_156, w189_157, w189_158, w189_161, w189_163, w189_165, w189_166, w189_169, w189_171, w189_172, w189_173, w189_175, w189_176, w189_177, w189_178, w189_179, w189_180, w189_183, w189_185, w189_187, w189_188, w189_191, w189_194, w189_197, w189_200, w189_203, w189_204, ks_118, ht3, m30, kt_134, in_nI (show is < kl 134 by rw [kl_134]; omega) (by rw [kl_134]; omega), nI_clamp (show is < 2 ^ 31 by omega), eb, oIs, h9, c_turnedSet hM' hc' hw (show is < 2 ^ 31 by omega) ht, in_nI (show endsN c is t (c 0) < kl 134 by rw [kl_134]; omega) (by rw [kl_134]; omega), nI_clamp (show endsN c is t (c 0) < 2 ^ 31 by omega), ea, hm1, nI_add t 1, ↓reduceIte, Option.toList_some, Option.toList_none, List.cons_append, List.nil_append]
theorem l_waves {x : Option Nat} {fig s : Nat} (hfig : fig < 2) (hx : ∀ k, x = some k → k < 8) (hM : MR σ) (hc : MC σ c) (hw : WC c) : ∀ (f k : Nat) (S : WS) (ρ : dm_G) (v6 v7 v8 : Option Value), k + f = 256 → (∀ a, ¬ (132 < a ∧ a < 136) → ρ a = σ a) → wM ρ S → wI c S → (∀ ρ, (∀ a, ¬ (132 < a ∧ a < 136) → ρ a = σ a) → Q (some (.int (wvR c x fig f k S))) ρ) → Wq none 189 52 [some (.ref (118 : Nat)), some (.int (nI s)), some (.int (oI x)), some (.int (nI fig)), some (.int (nI S.2.2.2)), some (.int (nI k)), v6, v7, v8] [] ρ Q := by
  have p8 : 2 ^ c 0 ≤ 2 ^ 8 := Nat.pow_le_pow_right (by decide) hw.1
  intro f
  induction f with
  | zero =>
    intro k S ρ v6 v7 v8 hkf hk hS hI hq
    obtain rfl : k = 256 := by omega
    have hle := wI_le hI
    rw [w189_52]
    simp only [w189_0, w189_1, w189_3, w189_5, w189_8, w189_11, w189_12, w189_15, w189_17, w189_18, w189_19, w189_22, w189_25, w189_26, w189_28, w189_29, w189_32, w189_33, w189_34, w189_35, w189_36, w189_39, w189_40, w189_41, w189_42, w189_43, w189_46, w189_47, w189_48, w189_49, w189_50, w189_54, w189_56, w189_59, w189_60, w189_63, w189_65, w189_66, w189_68, w189_70, w189_71, w189_74, w189_77, w189_78, w189_81, w189_82, w189_85, w189_87, w189_88, w189_91, w189_92, w189_95, w189_97, w189_98, w189_99, w189_100, w189_102, w189_104, w189_105, w189_108, w189_109, w189_112, w189_114, w189_115, w189_117, w189_120, w189_121, w189_123, w189_125, w189_128, w189_130, w189_131, w189_134, w189_136, w189_137, w189_138, w189_141, w189_142, w189_145, w189_147, w189_148, w189_151, w189_153, w189_154, w189_155, w189_156, w189_157, w189_158, w189_161, w189_163, w189_165, w189_166, w189_169, w189_171, w189_172, w189_173, w189_175, w189_176, w189_177, w189_178, w189_179, w189_180, w189_183, w189_185, w189_187, w189_188, w189_191, w189_194, w189_197, w189_200, w189_203, w189_204, nI_le hle (show 256 < 2 ^ 31 by omega), ↓reduceIte, Option.toList_some, Option.toList_none, List.cons_append, List.nil_append]
    exact hq ρ hk
  | succ f ih =>
    intro k S ρ v6 v7 v8 hkf hk hS hI hq
    obtain ⟨s4, s5, s6⟩ := id hS
    have hle := wI_le hI
    have hM' : MR ρ := MR_of (hk 118 (by omega)) hM
    obtain ⟨m0, m1, m2, m3, m5, m6, m8, m11, m12, m14, m22, m23, m24, m25, m29, m30, m31, m32⟩ := id hM'
    rw [w189_52]
    by_cases hkw : k < S.2.2.2
    · have h2 : ¬ nI S.2.2.2 ≤ nI k := nI_ge hkw (by omega)
      obtain ⟨hq8, hne⟩ := hI.1 k hkw
      have ea := s4 k hkw
      have eb := s5 (S.1 k) (by omega)
      have ec := s6 (S.1 k) (by omega) hne
      rw [wvS] at hq
      rw [if_pos hkw] at hq
      by_cases hE : isE x (S.1 k) = true
      · rw [if_pos hE] at hq
        by_cases hf : fig = 0
        · subst hf
          rw [if_pos rfl] at hq
          simp only [w189_0, w189_1, w189_3, w189_5, w189_8, w189_11, w189_12, w189_15, w189_17, w189_18, w189_19, w189_22, w189_25, w189_26, w189_28, w189_29, w189_32, w189_33, w189_34, w189_35, w189_36, w189_39, w189_40, w189_41, w189_42, w189_43, w189_46, w189_47, w189_48, w189_49, w189_50, w189_54, w189_56, w189_59, w189_60, w189_63, w189_65, w189_66, w189_68, w189_70, w189_71, w189_74, w189_77, w189_78, w189_81, w189_82, w189_85, w189_87, w189_88, w189_91, w189_92, w189_95, w189_97, w189_98, w189_99, w189_100, w189_102, w189_104, w189_105, w189_108, w189_109, w189_112, w189_114, w189_115, w189_117, w189_120, w189_121, w189_123, w189_125, w189_128, w189_130, w189_131, w189_134, w189_136, w189_137, w189_138, w189_141, w189_142, w189_145, w189_147, w189_148, w189_151, w189_153, w189_154, w189_155, w189_156, w189_157, w189_158, w189_161, w189_163, w189_165, w189_166, w189_169, w189_171, w189_172, w189_173, w189_175, w189_176, w189_177, w189_178, w189_179, w189_180, w189_183, w189_185, w189_187, w189_188, w189_191, w189_194, w189_197, w189_200, w189_203, w189_204, ks_118, h2, m29, m30, kt_133, kt_134, in_nI (show k < kl 133 by rw [kl_133]; omega) (by rw [kl_133]; omega), nI_clamp (show k < 2 ^ 31 by omega), ea, in_nI (show S.1 k < kl 134 by rw [kl_134]; omega) (by rw [kl_134]; omega), nI_clamp (show S.1 k < 2 ^ 31 by omega), eb, c_isEnd (show S.1 k < 256 by omega) hx, hE, nI_ne1, ↓reduceIte, Option.toList_some, Option.toList_none, List.cons_append, List.nil_append]
          exact hq ρ hk
        · obtain rfl : fig = 1 := by omega
          rw [if_neg (by omega)] at hq
          simp only [w189_0, w189_1, w189_3, w189_5, w189_8, w189_11, w189_12, w189_15, w189_17, w189_18, w189_19, w189_22, w189_25, w189_26, w189_28, w189_29, w189_32, w189_33, w189_34, w189_35, w189_36, w189_39, w189_40, w189_41, w189_42, w189_43, w189_46, w189_47, w189_48, w189_49, w189_50, w189_54, w189_56, w189_59, w189_60, w189_63, w189_65, w189_66, w189_68, w189_70, w189_71, w189_74, w189_77, w189_78, w189_81, w189_82, w189_85, w189_87, w189_88, w189_91, w189_92, w189_95, w189_97, w189_98, w189_99, w189_100, w189_102, w189_104, w189_105, w189_108, w189_109, w189_112, w189_114, w189_115, w189_117, w189_120, w189_121, w189_123, w189_125, w189_128, w189_130, w189_131, w189_134, w189_136, w189_137, w189_138, w189_141, w189_142, w189_145, w189_147, w189_148, w189_151, w189_153, w189_154, w189_155, w189_156, w189_157, w189_158, w189_161, w189_163, w189_165, w189_166, w189_169, w189_171, w189_172, w189_173, w189_175, w189_176, w189_177, w189_178, w189_179, w189_180, w189_183, w189_185, w189_187, w189_188, w189_191, w189_194, w189_197, w189_200, w189_203, w189_204, ks_118, h2, m29, m31, kt_133, kt_135, in_nI (show k < kl 133 by rw [kl_133]; omega) (by rw [kl_133]; omega), nI_clamp (show k < 2 ^ 31 by omega), ea, in_nI (show S.1 k < kl 135 by rw [kl_135]; omega) (by rw [kl_135]; omega), nI_clamp (show S.1 k < 2 ^ 31 by omega), ec, c_isEnd (show S.1 k < 256 by omega) hx, hE, nI_ne1, ↓reduceIte, Option.toList_some, Option.toList_none, List.cons_append, List.nil_append]
          exact hq ρ hk
      · rw [if_neg hE] at hq
        cases hd : S.2.1 (S.1 k) with
        | none => exact absurd hd hne
        | some d =>
          rw [hd] at eb hq
          have hd9 := hI.2.1 _ _ hd
          by_cases hl : d < 9
          · rw [if_pos (show dO (some d) < 9 from hl)] at hq
            simp only [w189_0, w189_1, w189_3, w189_5, w189_8, w189_11, w189_12, w189_15, w189_17, w189_18, w189_19, w189_22, w189_25, w189_26, w189_28, w189_29, w189_32, w189_33, w189_34, w189_35, w189_36, w189_39, w189_40, w189_41, w189_42, w189_43, w189_46, w189_47, w189_48, w189_49, w189_50, w189_54, w189_56, w189_59, w189_60, w189_63, w189_65, w189_66, w189_68, w189_70, w189_71, w189_74, w189_77, w189_78, w189_81, w189_82, w189_85, w189_87, w189_88, w189_91, w189_92, w189_95, w189_97, w189_98, w189_99, w189_100, w189_104, w189_105, w189_108, w189_109, w189_112, w189_114, w189_115, w189_117, w189_120, w189_121, w189_123, w189_125, w189_128, w189_130, w189_131, w189_134, w189_136, w189_137, w189_138, w189_141, w189_142, w189_145, w189_147, w189_148, w189_151, w189_153, w189_154, w189_155, w189_156, w189_157, w189_158, w189_161, w189_163, w189_165, w189_166, w189_169, w189_171, w189_172, w189_173, w189_175, w189_176, w189_177, w189_178, w189_179, w189_180, w189_183, w189_185, w189_187, w189_188, w189_191, w189_194, w189_197, w189_200, w189_203, w189_204, ks_118, h2, m29, kt_133, in_nI (show k < kl 133 by rw [kl_133]; omega) (by rw [kl_133]; omega), nI_clamp (show k < 2 ^ 31 by omega), ea, c_isEnd (show S.1 k < 256 by omega) hx, hE, ↓reduceIte, Option.toList_some, Option.toList_none, List.cons_append, List.nil_append, Bool.false_eq_true]
            obtain ⟨ρ1, u1, e1, hS1, k1⟩ := l_mwT (t := 0) (k := k) (s := s) (fig := fig) (x := x) (v8 := v8) hM hc hw hk hS hI hq8 hd hl (by omega)
            have hI1 := wI_T (is := S.1 k) (d := d) hw hI (show 0 < 3 by omega) hl
            have hd1 := wvT_st (c := c) (is := S.1 k) (d := d) (t := 0) hd
            obtain ⟨ρ2, u2, e2, hS2, k2⟩ := l_mwT (t := 1) (k := k) (s := s) (fig := fig) (x := x) (v8 := u1) hM hc hw k1 hS1 hI1 hq8 hd1 hl (by omega)
            have hI2 := wI_T (is := S.1 k) (d := d) hw hI1 (show 1 < 3 by omega) hl
            have hd2 := wvT_st (c := c) (is := S.1 k) (d := d) (t := 1) hd1
            obtain ⟨ρ3, u3, e3, hS3, k3⟩ := l_mwT (t := 2) (k := k) (s := s) (fig := fig) (x := x) (v8 := u2) hM hc hw k2 hS2 hI2 hq8 hd2 hl (by omega)
            have hI3 := wI_T (is := S.1 k) (d := d) hw hI2 (show 2 < 3 by omega) hl
            rw [e1, e2, e3]
            simp only [w189_0, w189_1, w189_3, w189_5, w189_8, w189_11, w189_12, w189_15, w189_17, w189_18, w189_19, w189_22, w189_25, w189_26, w189_28, w189_29, w189_32, w189_33, w189_34, w189_35, w189_36, w189_39, w189_40, w189_41, w189_42, w189_43, w189_46, w189_47, w189_48, w189_49, w189_50, w189_54, w189_56, w189_59, w189_60, w189_63, w189_65, w189_66, w189_68, w189_70, w189_71, w189_74, w189_77, w189_78, w189_81, w189_82, w189_85, w189_87, w189_88, w189_91, w189_92, w189_95, w189_97, w189_98, w189_99, w189_100, w189_102, w189_104, w189_105, w189_108, w189_109, w189_112, w189_114, w189_115, w189_117, w189_120, w189_121, w189_123, w189_125, w189_128, w189_130, w189_131, w189_134, w189_136, w189_137, w189_138, w189_141, w189_142, w189_145, w189_147, w189_148, w189_151, w189_153, w189_154, w189_155, w189_156, w189_157, w189_158, w189_161, w189_163, w189_165, w189_166, w189_169, w189_171, w189_172, w189_173, w189_175, w189_176, w189_177, w189_178, w189_179, w189_180, w189_183, w189_185, w189_187, w189_188, w189_191, w189_194, w189_197, w189_200, w189_203, w189_204, Nat.reduceAdd, (by decide : nI 3 ≤ nI 3), nI_add k 1, ↓reduceIte, Option.toList_some, Option.toList_none, List.cons_append, List.nil_append]
            exact ih (k + 1) _ ρ3 _ _ _ (by omega) k3 hS3 hI3 hq
          · rw [if_neg (show ¬ dO (some d) < 9 from hl)] at hq
            have h3 : nI 9 ≤ nI d := nI_le (by omega) (by omega)
            simp only [w189_0, w189_1, w189_3, w189_5, w189_8, w189_11, w189_12, w189_15, w189_17, w189_18, w189_19, w189_22, w189_25, w189_26, w189_28, w189_29, w189_32, w189_33, w189_34, w189_35, w189_36, w189_39, w189_40, w189_41, w189_42, w189_43, w189_46, w189_47, w189_48, w189_49, w189_50, w189_54, w189_56, w189_59, w189_60, w189_63, w189_65, w189_66, w189_68, w189_70, w189_71, w189_74, w189_77, w189_78, w189_81, w189_82, w189_85, w189_87, w189_88, w189_91, w189_92, w189_95, w189_97, w189_98, w189_99, w189_100, w189_102, w189_104, w189_105, w189_108, w189_109, w189_112, w189_114, w189_115, w189_117, w189_120, w189_121, w189_123, w189_125, w189_128, w189_130, w189_131, w189_134, w189_136, w189_137, w189_138, w189_141, w189_142, w189_145, w189_147, w189_148, w189_151, w189_153, w189_154, w189_155, w189_156, w189_157, w189_158, w189_161, w189_163, w189_165, w189_166, w189_169, w189_171, w189_172, w189_173, w189_175, w189_176, w189_177, w189_178, w189_179, w189_180, w189_183, w189_185, w189_187, w189_188, w189_191, w189_194, w189_197, w189_200, w189_203, w189_204, ks_118, h2, m29, m30, kt_133, kt_134, in_nI (show k < kl 133 by rw [kl_133]; omega) (by rw [kl_133]; omega), nI_clamp (show k < 2 ^ 31 by omega), ea, in_nI (show S.1 k < kl 134 by rw [kl_134]; omega) (by rw [kl_134]; omega), nI_clamp (show S.1 k < 2 ^ 31 by omega), eb, oIs, (by decide : ¬ nI 3 ≤ nI 0), h3, c_isEnd (show S.1 k < 256 by omega) hx, hE, nI_add k 1, ↓reduceIte, Option.toList_some, Option.toList_none, List.cons_append, List.nil_append, Bool.false_eq_true]
            exact ih (k + 1) _ ρ _ _ _ (by omega) hk hS hI hq
    · have h2 : nI S.2.2.2 ≤ nI k := nI_le (by omega) (by omega)
      simp only [w189_0, w189_1, w189_3, w189_5, w189_8, w189_11, w189_12, w189_15, w189_17, w189_18, w189_19, w189_22, w189_25, w189_26, w189_28, w189_29, w189_32, w189_33, w189_34, w189_35, w189_36, w189_39, w189_40, w189_41, w189_42, w189_43, w189_46, w189_47, w189_48, w189_49, w189_50, w189_54, w189_56, w189_59, w189_60, w189_63, w189_65, w189_66, w189_68, w189_70, w189_71, w189_74, w189_77, w189_78, w189_81, w189_82, w189_85, w189_87, w189_88, w189_91, w189_92, w189_95, w189_97, w189_98, w189_99, w189_100, w189_102, w189_104, w189_105, w189_108, w189_109, w189_112, w189_114, w189_115, w189_117, w189_120, w189_121, w189_123, w189_125, w189_128, w189_130, w189_131, w189_134, w189_136, w189_137, w189_138, w189_141, w189_142, w189_145, w189_147, w189_148, w189_151, w189_153, w189_154, w189_155, w189_156, w189_157, w189_158, w189_161, w189_163, w189_165, w189_166, w189_169, w189_171, w189_172, w189_173, w189_175, w189_176, w189_177, w189_178, w189_179, w189_180, w189_183, w189_185, w189_187, w189_188, w189_191, w189_194, w189_197, w189_200, w189_203, w189_204, h2, ↓reduceIte, Option.toList_some, Option.toList_none, List.cons_append, List.nil_append]
      rw [wvS, if_neg hkw] at hq
      exact hq ρ hk
theorem l_waves0 {v1 v2 v3 v5 v6 v7 v8 : Option Value} (hM : MR σ) (kk : ∀ ρ, (∀ a, ¬ (132 < a ∧ a < 136) → ρ a = σ a) → (∀ r, r < 256 → gi ρ 134 r = -1) → Wq none 189 25 [some (.ref (118 : Nat)), v1, v2, v3, some (.int (nI 256)), v5, v6, v7, v8] [] ρ Q) : ∀ (f i : Nat) (ρ : dm_G), i + f = 256 → (∀ a, ¬ (132 < a ∧ a < 136) → ρ a = σ a) → (∀ r, r < i → gi ρ 134 r = -1) → Wq none 189 3 [some (.ref (118 : Nat)), v1, v2, v3, some (.int (nI i)), v5, v6, v7, v8] [] ρ Q := by
  intro f
  induction f with
  | zero =>
    intro i ρ hi hk h0
    obtain rfl : i = 256 := by omega
    rw [w189_3]
    simp only [w189_0, w189_1, w189_5, w189_8, w189_11, w189_12, w189_15, w189_17, w189_18, w189_19, w189_22, w189_26, w189_28, w189_29, w189_32, w189_33, w189_34, w189_35, w189_36, w189_39, w189_40, w189_41, w189_42, w189_43, w189_46, w189_47, w189_48, w189_49, w189_50, w189_52, w189_54, w189_56, w189_59, w189_60, w189_63, w189_65, w189_66, w189_68, w189_70, w189_71, w189_74, w189_77, w189_78, w189_81, w189_82, w189_85, w189_87, w189_88, w189_91, w189_92, w189_95, w189_97, w189_98, w189_99, w189_100, w189_102, w189_104, w189_105, w189_108, w189_109, w189_112, w189_114, w189_115, w189_117, w189_120, w189_121, w189_123, w189_125, w189_128, w189_130, w189_131, w189_134, w189_136, w189_137, w189_138, w189_141, w189_142, w189_145, w189_147, w189_148, w189_151, w189_153, w189_154, w189_155, w189_156, w189_157, w189_158, w189_161, w189_163, w189_165, w189_166, w189_169, w189_171, w189_172, w189_173, w189_175, w189_176, w189_177, w189_178, w189_179, w189_180, w189_183, w189_185, w189_187, w189_188, w189_191, w189_194, w189_197, w189_200, w189_203, w189_204, (by decide : nI 256 ≤ nI 256), ↓reduceIte, Option.toList_some, Option.toList_none, List.cons_append, List.nil_append]
    exact kk ρ hk h0
  | succ f ih =>
    intro i ρ hi hk h0
    have h1 : ¬ nI 256 ≤ nI i := nI_ge (by omega) (by omega)
    have hM' : MR ρ := MR_of (hk 118 (by omega)) hM
    obtain ⟨m0, m1, m2, m3, m5, m6, m8, m11, m12, m14, m22, m23, m24, m25, m29, m30, m31, m32⟩ := id hM'
    rw [w189_3]
    simp only [w189_0, w189_1, w189_5, w189_8, w189_11, w189_12, w189_15, w189_17, w189_18, w189_19, w189_22, w189_26, w189_28, w189_29, w189_32, w189_33, w189_34, w189_35, w189_36, w189_39, w189_40, w189_41, w189_42, w189_43, w189_46, w189_47, w189_48, w189_49, w189_50, w189_52, w189_54, w189_56, w189_59, w189_60, w189_63, w189_65, w189_66, w189_68, w189_70, w189_71, w189_74, w189_77, w189_78, w189_81, w189_82, w189_85, w189_87, w189_88, w189_91, w189_92, w189_95, w189_97, w189_98, w189_99, w189_100, w189_102, w189_104, w189_105, w189_108, w189_109, w189_112, w189_114, w189_115, w189_117, w189_120, w189_121, w189_123, w189_125, w189_128, w189_130, w189_131, w189_134, w189_136, w189_137, w189_138, w189_141, w189_142, w189_145, w189_147, w189_148, w189_151, w189_153, w189_154, w189_155, w189_156, w189_157, w189_158, w189_161, w189_163, w189_165, w189_166, w189_169, w189_171, w189_172, w189_173, w189_175, w189_176, w189_177, w189_178, w189_179, w189_180, w189_183, w189_185, w189_187, w189_188, w189_191, w189_194, w189_197, w189_200, w189_203, w189_204, ks_118, h1, m30, kt_134, in_nI (show i < kl 134 by rw [kl_134]; omega) (by rw [kl_134]; omega), nI_clamp (show i < 2 ^ 31 by omega), nI_add, ↓reduceIte, Option.toList_some, Option.toList_none, List.cons_append, List.nil_append]
    refine ih (i + 1) _ (by omega) (fun a z => by rw [up_cell (by omega), hk a z]) (fun r hr => ?_)
    rw [gi_up]
    by_cases z : r = i
    · rw [if_pos ⟨rfl, z⟩]
    · rw [if_neg (fun w => z w.2)]
      exact h0 r (by omega)
theorem c_waves {x : Option Nat} {fig s : Nat} (hfig : fig < 2) (hx : ∀ k, x = some k → k < 8) (hM : MR σ) (hc : MC σ c) (hw : WC c) (hs : s < 2 ^ c 0) (hq : ∀ ρ, (∀ a, ¬ (132 < a ∧ a < 136) → ρ a = σ a) → Q (some (.int (wvF c x fig s))) ρ) : Wq none 189 0 [some (.ref (118 : Nat)), some (.int (nI s)), some (.int (oI x)), some (.int (nI fig)), none, none, none, none, none] [] σ Q := by
  have p8 : 2 ^ c 0 ≤ 2 ^ 8 := Nat.pow_le_pow_right (by decide) hw.1
  simp only [w189_0, w189_1, w189_5, w189_8, w189_11, w189_12, w189_15, w189_17, w189_18, w189_19, w189_22, w189_26, w189_28, w189_29, w189_32, w189_33, w189_34, w189_35, w189_36, w189_39, w189_40, w189_41, w189_42, w189_43, w189_46, w189_47, w189_48, w189_49, w189_50, w189_54, w189_56, w189_59, w189_60, w189_63, w189_65, w189_66, w189_68, w189_70, w189_71, w189_74, w189_77, w189_78, w189_81, w189_82, w189_85, w189_87, w189_88, w189_91, w189_92, w189_95, w189_97, w189_98, w189_99, w189_100, w189_102, w189_104, w189_105, w189_108, w189_109, w189_112, w189_114, w189_115, w189_117, w189_120, w189_121, w189_123, w189_125, w189_128, w189_130, w189_131, w189_134, w189_136, w189_137, w189_138, w189_141, w189_142, w189_145, w189_147, w189_148, w189_151, w189_153, w189_154, w189_155, w189_156, w189_157, w189_158, w189_161, w189_163, w189_165, w189_166, w189_169, w189_171, w189_172, w189_173, w189_175, w189_176, w189_177, w189_178, w189_179, w189_180, w189_183, w189_185, w189_187, w189_188, w189_191, w189_194, w189_197, w189_200, w189_203, w189_204, ↓reduceIte, Option.toList_some, Option.toList_none, List.cons_append, List.nil_append]
  refine l_waves0 hM (fun ρ hk h0 => ?_) 256 0 σ (by omega) (fun a _ => rfl) (fun r hr => absurd hr (by omega))
  have hM' : MR ρ := MR_of (hk 118 (by omega)) hM
  obtain ⟨m0, m1, m2, m3, m5, m6, m8, m11, m12, m14, m22, m23, m24, m25, m29, m30, m31, m32⟩ := id hM'
  let ρ1 : dm_G := dm_up ρ 133 0 (.int (nI s))
  let ρ2 : dm_G := dm_up ρ1 134 s (.int (nI 0))
  let ρ3 : dm_G := dm_up ρ2 135 s (.int (nI 0))
  have x1 : ρ1 118 30 = (.ref (134 : Nat)) := m30
  have x2 : ρ2 118 31 = (.ref (135 : Nat)) := m31
  have hS : wM ρ3 (wvA wv0 s 0 0) := by
    refine ⟨fun i hi => ?_, fun r' hr' => ?_, fun r' hr' hn => ?_⟩
    · have hi : i < 0 + 1 := hi
      obtain rfl : i = 0 := by omega
      show gi (dm_up (dm_up (dm_up ρ 133 0 _) 134 s _) 135 s _) 133 0 = nI (up1 (fun _ => 0) 0 s 0)
      rw [gi_up, if_neg (by omega), gi_up, if_neg (by omega), gi_up, if_pos ⟨rfl, rfl⟩, up1_eq]
    · show gi (dm_up (dm_up (dm_up ρ 133 0 _) 134 s _) 135 s _) 134 r' = oI (upO (fun _ => none) s 0 r')
      rw [gi_up, if_neg (by omega), gi_up]
      unfold upO
      by_cases z : r' = s
      · rw [if_pos ⟨rfl, z⟩, if_pos z]
        rfl
      · rw [if_neg (fun w => z w.2), if_neg z, gi_up, if_neg (by omega)]
        exact h0 r' hr'
    · have hn : upO (fun _ => none) s 0 r' ≠ none := hn
      show gi (dm_up (dm_up (dm_up ρ 133 0 _) 134 s _) 135 s _) 135 r' = nI (up1 (fun _ => 0) s 0 r')
      unfold upO at hn
      by_cases z : r' = s
      · rw [gi_up, if_pos ⟨rfl, z⟩, z, up1_eq]
      · rw [if_neg z] at hn
        exact absurd rfl hn
  simp only [w189_0, w189_1, w189_5, w189_8, w189_11, w189_12, w189_15, w189_17, w189_18, w189_19, w189_22, w189_25, w189_26, w189_28, w189_29, w189_32, w189_33, w189_34, w189_36, w189_39, w189_40, w189_41, w189_42, w189_43, w189_46, w189_47, w189_48, w189_49, w189_50, w189_52, w189_54, w189_56, w189_59, w189_60, w189_63, w189_65, w189_66, w189_68, w189_70, w189_71, w189_74, w189_77, w189_78, w189_81, w189_82, w189_85, w189_87, w189_88, w189_91, w189_92, w189_95, w189_97, w189_98, w189_99, w189_100, w189_102, w189_104, w189_105, w189_108, w189_109, w189_112, w189_114, w189_115, w189_117, w189_120, w189_121, w189_123, w189_125, w189_128, w189_130, w189_131, w189_134, w189_136, w189_137, w189_138, w189_141, w189_142, w189_145, w189_147, w189_148, w189_151, w189_153, w189_154, w189_155, w189_156, w189_157, w189_158, w189_161, w189_163, w189_165, w189_166, w189_169, w189_171, w189_172, w189_173, w189_175, w189_176, w189_177, w189_178, w189_179, w189_180, w189_183, w189_185, w189_187, w189_188, w189_191, w189_194, w189_197, w189_200, w189_203, w189_204, ks_118, m29, kt_133, in_nI (show 0 < kl 133 by rw [kl_133]; omega) (by rw [kl_133]; omega), nI_clamp (show 0 < 2 ^ 31 by omega), ↓reduceIte, Option.toList_some, Option.toList_none, List.cons_append, List.nil_append]
  show Wq none 189 35 [some (.ref (118 : Nat)), some (.int (nI s)), some (.int (oI x)), some (.int (nI fig)), some (.int (nI 1)), none, none, none, none] [] ρ1 Q
  simp only [w189_0, w189_1, w189_3, w189_5, w189_8, w189_11, w189_12, w189_15, w189_17, w189_18, w189_19, w189_22, w189_25, w189_26, w189_28, w189_29, w189_32, w189_33, w189_34, w189_35, w189_36, w189_39, w189_40, w189_41, w189_43, w189_46, w189_47, w189_48, w189_49, w189_50, w189_52, w189_54, w189_56, w189_59, w189_60, w189_63, w189_65, w189_66, w189_68, w189_70, w189_71, w189_74, w189_77, w189_78, w189_81, w189_82, w189_85, w189_87, w189_88, w189_91, w189_92, w189_95, w189_97, w189_98, w189_99, w189_100, w189_102, w189_104, w189_105, w189_108, w189_109, w189_112, w189_114, w189_115, w189_117, w189_120, w189_121, w189_123, w189_125, w189_128, w189_130, w189_131, w189_134, w189_136, w189_137, w189_138, w189_141, w189_142, w189_145, w189_147, w189_148, w189_151, w189_153, w189_154, w189_155, w189_156, w189_157, w189_158, w189_161, w189_163, w189_165, w189_166, w189_169, w189_171, w189_172, w189_173, w189_175, w189_176, w189_177, w189_178, w189_179, w189_180, w189_183, w189_185, w189_187, w189_188, w189_191, w189_194, w189_197, w189_200, w189_203, w189_204, ks_118, x1, kt_134, in_nI (show s < kl 134 by rw [kl_134]; omega) (by rw [kl_134]; omega), nI_clamp (show s < 2 ^ 31 by omega), ↓reduceIte, Option.toList_some, Option.toList_none, List.cons_append, List.nil_append]
  show Wq none 189 42 [some (.ref (118 : Nat)), some (.int (nI s)), some (.int (oI x)), some (.int (nI fig)), some (.int (nI 1)), none, none, none, none] [] ρ2 Q
  simp only [w189_0, w189_1, w189_3, w189_5, w189_8, w189_11, w189_12, w189_15, w189_17, w189_18, w189_19, w189_22, w189_25, w189_26, w189_28, w189_29, w189_32, w189_33, w189_34, w189_35, w189_36, w189_39, w189_40, w189_41, w189_42, w189_43, w189_46, w189_47, w189_48, w189_49, w189_50, w189_54, w189_56, w189_59, w189_60, w189_63, w189_65, w189_66, w189_68, w189_70, w189_71, w189_74, w189_77, w189_78, w189_81, w189_82, w189_85, w189_87, w189_88, w189_91, w189_92, w189_95, w189_97, w189_98, w189_99, w189_100, w189_102, w189_104, w189_105, w189_108, w189_109, w189_112, w189_114, w189_115, w189_117, w189_120, w189_121, w189_123, w189_125, w189_128, w189_130, w189_131, w189_134, w189_136, w189_137, w189_138, w189_141, w189_142, w189_145, w189_147, w189_148, w189_151, w189_153, w189_154, w189_155, w189_156, w189_157, w189_158, w189_161, w189_163, w189_165, w189_166, w189_169, w189_171, w189_172, w189_173, w189_175, w189_176, w189_177, w189_178, w189_179, w189_180, w189_183, w189_185, w189_187, w189_188, w189_191, w189_194, w189_197, w189_200, w189_203, w189_204, ks_118, x2, kt_135, in_nI (show s < kl 135 by rw [kl_135]; omega) (by rw [kl_135]; omega), nI_clamp (show s < 2 ^ 31 by omega), ↓reduceIte, Option.toList_some, Option.toList_none, List.cons_append, List.nil_append]
  exact l_waves hfig hx hM hc hw 256 0 (wvA wv0 s 0 0) ρ3 none none none (by omega) (fun a z => by
    show dm_up (dm_up (dm_up ρ 133 0 _) 134 s _) 135 s _ a = _
    rw [up_cell (by omega), up_cell (by omega), up_cell (by omega), hk a z]) hS (wI_A hw wI_0 hs rfl (by omega)) hq
theorem inv_kc {ρ : dm_G} (hI : Inv σ) (hk : ∀ a b, ¬ ((a = 110 ∧ b = 3) ∨ (110 < a ∧ a < 114)) → ρ a b = σ a b) : Inv ρ := inv_sc hI (fun a b z => hk a b (by unfold scC scM at z; omega))
theorem inv_km {ρ : dm_G} (hI : Inv σ) (hk : (∀ a, ¬ (132 < a ∧ a < 136) → ρ a = σ a)) : Inv ρ := inv_sc hI (fun a b z => by rw [hk a (by unfold scC scM at z; omega)])
theorem pr_fromWherever (x y z : Int32) (hI : Inv σ) : Pr Inv 103 190 [.int x, .int y, .int z] σ := by
  obtain ⟨c, n, k, p, q, im, h, hs, ht, m, bg, bx, L, tx, f, s, hWA, hCA, hMA⟩ := id hI; obtain ⟨hw, hwn, ⟨hk16, hkp⟩, ⟨hq4, hqi⟩, ⟨hh9, hhs, hht⟩, ⟨hm15, hmb⟩, ⟨hL240, htx⟩, hs31⟩ := id hWA; obtain ⟨⟨P, D, hPD, hB, hC, hD⟩, hN, hPa, hIm, hHe, hBk, hTx, hF, hS, hSc⟩ := id hCA; obtain ⟨hM, hc, hn, hmP, hmI, hmH, hmB, hmT, hmF, hmS⟩ := id hMA
  obtain ⟨b0, b3, b4, b5, b6, b7, b8, b9, b10, b11, b12⟩ := id hB
  obtain ⟨w0, w2, w3, w4, w5, w6, w7, w8, w9⟩ := id hw
  have kP := hC.1.1
  rcases set_cs hw x with ⟨s', hs', rfl⟩ | hx
  · rcases ix_cs y (show c 0 < 2 ^ 31 by omega) with ⟨e, he, rfl⟩ | ⟨hy, hy2⟩
    · rcases ix_cs z (show 2 < 2 ^ 31 by omega) with ⟨g, hg, rfl⟩ | ⟨hz, hz2⟩
      · have a1 : ¬ nI g < nI 0 := nI_pos (by omega)
        have a2 : nI g ≤ nI 1 := nI_le (by omega) (by omega)
        have hin := in_yes (j := g) (N := 1) (by omega) (by omega)
        have hx8 : ∀ k, some e = some k → k < 8 := fun k h => by cases h; omega
        refine pr_ex (Er_ex ?_)
        show Wq none 103 0 [some (.ref (0 : Nat)), some (.int (nI s')), some (.int (nI e)), some (.int (nI g))] [] σ _
        have cf : ∀ Q : Option Value → dm_G → Prop, (∀ ρ, (∀ a b, ¬ ((a = 110 ∧ b = 3) ∨ (110 < a ∧ a < 114)) → ρ a b = σ a b) → Q (some (.int (wvF c (some e) g s'))) ρ) → Cq 72 [(.ref (110 : Nat)), .ref P, .int (nI s'), .int (nI e), .int (nI g)] σ Q := fun Q hq => Er_ex (c_find hg hx8 hPD hC hw hSc hs' hq)
        have fin : ∀ ρ, (∀ a b, ¬ ((a = 110 ∧ b = 3) ∨ (110 < a ∧ a < 114)) → ρ a b = σ a b) → ∃ v : Int32, (some (.int (wvF c (some e) g s')) : Option Value) = some (.int v) ∧ Cq 190 [(.ref (118 : Nat)), .int (nI s'), .int (nI e), .int (nI g)] ρ (fun r2 σ2 => r2 = some (.int v) ∧ Inv σ2) := by
          intro ρ hk
          have hIr := inv_kc hI hk
          have hMA2 := MA_lo hMA (fun a b z => hk a b (by omega))
          obtain ⟨gM, gc, -⟩ := id hMA2
          refine ⟨_, rfl, Er_ex ?_⟩
          show Wq none 190 0 [some (.ref (118 : Nat)), some (.int (nI s')), some (.int (nI e)), some (.int (nI g))] [] ρ _
          simp only [w190_0, w190_1, w190_2, w190_5, w190_8, w190_9, w190_10, w190_13, w190_16, w190_18, w190_19, w190_20, w190_21, w190_22, w190_23, w190_26, w190_29, w190_30, w190_31, w190_32, w190_33, w190_39, w190_41, ks_118, c_isSet (x := nI s') gM gc hw ⟨s', hs', rfl⟩, c_isCrossing (x := nI e) gM gc hw ⟨e, he, rfl⟩, nI_ne1, c_in, hin, ↓reduceIte, Option.toList_some, Option.toList_none, List.cons_append, List.nil_append]
          refine Er_ex (c_waves (x := some e) hg hx8 gM gc hw hs' (fun ρ' hk' => ?_))
          simp only [w190_0, w190_1, w190_2, w190_5, w190_8, w190_9, w190_10, w190_13, w190_16, w190_18, w190_19, w190_20, w190_21, w190_22, w190_23, w190_26, w190_29, w190_30, w190_31, w190_32, w190_33, w190_36, w190_39, w190_41, ↓reduceIte, Option.toList_some, Option.toList_none, List.cons_append, List.nil_append, true_and]
          exact inv_km hIr hk'
        by_cases hg1 : g = 1
        · subst hg1
          simp only [w103_0, w103_1, w103_4, w103_5, w103_8, w103_11, w103_12, w103_15, w103_16, w103_19, w103_22, w103_24, w103_25, w103_26, w103_29, w103_30, w103_31, w103_34, w103_36, w103_37, w103_38, w103_41, w103_42, w103_45, w103_46, w103_47, w103_48, w103_49, w103_52, w103_53, w103_56, w103_57, ks_0, ks_110, kP, b4, b11, c_hasAll hC hw hs', c_hasCrossing hC he hw, nI_ne1, a1, a2, ↓reduceIte, Option.toList_some, Option.toList_none, List.cons_append, List.nil_append]
          refine cf _ (fun ρ hk => ?_)
          simp only [w103_0, w103_1, w103_4, w103_5, w103_8, w103_11, w103_12, w103_15, w103_16, w103_19, w103_22, w103_24, w103_25, w103_26, w103_29, w103_30, w103_31, w103_34, w103_36, w103_37, w103_38, w103_41, w103_42, w103_45, w103_46, w103_47, w103_48, w103_49, w103_52, w103_53, w103_56, w103_57, w103_60, ↓reduceIte, Option.toList_some, Option.toList_none, List.cons_append, List.nil_append]
          exact fin ρ hk
        · obtain rfl : g = 0 := by omega
          simp only [w103_0, w103_1, w103_4, w103_5, w103_8, w103_11, w103_12, w103_15, w103_16, w103_19, w103_22, w103_24, w103_25, w103_26, w103_29, w103_30, w103_31, w103_34, w103_36, w103_37, w103_38, w103_41, w103_42, w103_45, w103_46, w103_47, w103_48, w103_49, w103_52, w103_53, w103_56, w103_57, ks_0, ks_110, kP, b4, b11, c_hasAll hC hw hs', c_hasCrossing hC he hw, nI_ne1, a1, a2, (by decide : ¬ nI 0 = nI 1), ↓reduceIte, Option.toList_some, Option.toList_none, List.cons_append, List.nil_append]
          refine cf _ (fun ρ hk => ?_)
          simp only [w103_0, w103_1, w103_4, w103_5, w103_8, w103_11, w103_12, w103_15, w103_16, w103_19, w103_22, w103_24, w103_25, w103_26, w103_29, w103_30, w103_31, w103_34, w103_36, w103_37, w103_38, w103_41, w103_42, w103_45, w103_46, w103_47, w103_48, w103_49, w103_52, w103_53, w103_56, w103_57, w103_60, ↓reduceIte, Option.toList_some, Option.toList_none, List.cons_append, List.nil_append]
          exact fin ρ hk
      · have hin := in_no (x := z) (N := 1) (by omega) hz2
        refine pr_of (v := -1000000002) (σ1 := σ) (σ2 := σ) (fun Q => Cq_of (Er_of ?_)) (fun Q => Cq_of (Er_of ?_)) hI
        · show Wq none 103 0 [some (.ref (0 : Nat)), some (.int (nI s')), some (.int (nI e)), some (.int z)] [] σ _
          by_cases h0 : z < nI 0
          · simp only [w103_0, w103_1, w103_4, w103_5, w103_8, w103_11, w103_12, w103_15, w103_16, w103_19, w103_22, w103_24, w103_25, w103_26, w103_29, w103_30, w103_31, w103_34, w103_36, w103_37, w103_38, w103_41, w103_42, w103_45, w103_46, w103_47, w103_48, w103_49, w103_52, w103_53, w103_56, w103_57, w103_60, ks_0, kP, b4, c_hasAll hC hw hs', c_hasCrossing hC he hw, nI_ne1, h0, ↓reduceIte, Option.toList_some, Option.toList_none, List.cons_append, List.nil_append, and_self]
          · simp only [w103_0, w103_1, w103_4, w103_5, w103_8, w103_11, w103_12, w103_15, w103_16, w103_19, w103_22, w103_24, w103_25, w103_26, w103_29, w103_30, w103_31, w103_34, w103_36, w103_37, w103_38, w103_41, w103_42, w103_45, w103_46, w103_47, w103_48, w103_49, w103_52, w103_53, w103_56, w103_57, w103_60, ks_0, kP, b4, c_hasAll hC hw hs', c_hasCrossing hC he hw, nI_ne1, h0, nle_le (N := 1) (by omega) h0 hz, ↓reduceIte, Option.toList_some, Option.toList_none, List.cons_append, List.nil_append, and_self]
        · show Wq none 190 0 [some (.ref (118 : Nat)), some (.int (nI s')), some (.int (nI e)), some (.int z)] [] σ _
          simp only [w190_0, w190_1, w190_2, w190_5, w190_8, w190_9, w190_10, w190_13, w190_16, w190_18, w190_19, w190_20, w190_21, w190_22, w190_23, w190_26, w190_29, w190_30, w190_31, w190_32, w190_33, w190_36, w190_39, w190_41, ks_118, c_isSet (x := nI s') hM hc hw ⟨s', hs', rfl⟩, c_isCrossing (x := nI e) hM hc hw ⟨e, he, rfl⟩, nI_ne1, c_in, hin, ↓reduceIte, Option.toList_some, Option.toList_none, List.cons_append, List.nil_append, and_self]
    · refine pr_of (v := -1000000001) (σ1 := σ) (σ2 := σ) (fun Q => Cq_of (Er_of ?_)) (fun Q => Cq_of (Er_of ?_)) hI
      · show Wq none 103 0 [some (.ref (0 : Nat)), some (.int (nI s')), some (.int y), some (.int z)] [] σ _
        simp only [w103_0, w103_1, w103_4, w103_5, w103_8, w103_11, w103_12, w103_15, w103_16, w103_19, w103_22, w103_24, w103_25, w103_26, w103_29, w103_30, w103_31, w103_34, w103_36, w103_37, w103_38, w103_41, w103_42, w103_45, w103_46, w103_47, w103_48, w103_49, w103_52, w103_53, w103_56, w103_57, w103_60, ks_0, kP, b4, c_hasAll hC hw hs', c_hasCrossing_f hC hy, nI_ne1, ↓reduceIte, Option.toList_some, Option.toList_none, List.cons_append, List.nil_append, and_self]
      · show Wq none 190 0 [some (.ref (118 : Nat)), some (.int (nI s')), some (.int y), some (.int z)] [] σ _
        simp only [w190_0, w190_1, w190_2, w190_5, w190_8, w190_9, w190_10, w190_13, w190_16, w190_18, w190_19, w190_20, w190_21, w190_22, w190_23, w190_26, w190_29, w190_30, w190_31, w190_32, w190_33, w190_36, w190_39, w190_41, ks_118, c_isSet (x := nI s') hM hc hw ⟨s', hs', rfl⟩, c_isCrossing_f hM hc hw hy2, nI_ne1, ↓reduceIte, Option.toList_some, Option.toList_none, List.cons_append, List.nil_append, and_self]
  · refine pr_of (v := -1000000001) (σ1 := σ) (σ2 := σ) (fun Q => Cq_of (Er_of ?_)) (fun Q => Cq_of (Er_of ?_)) hI
    · show Wq none 103 0 [some (.ref (0 : Nat)), some (.int x), some (.int y), some (.int z)] [] σ _
      simp only [w103_0, w103_1, w103_4, w103_5, w103_8, w103_11, w103_12, w103_15, w103_16, w103_19, w103_22, w103_24, w103_25, w103_26, w103_29, w103_30, w103_31, w103_34, w103_36, w103_37, w103_38, w103_41, w103_42, w103_45, w103_46, w103_47, w103_48, w103_49, w103_52, w103_53, w103_56, w103_57, w103_60, ks_0, kP, b4, c_hasAll_f hC hw hx, ↓reduceIte, Option.toList_some, Option.toList_none, List.cons_append, List.nil_append, and_self]
    · show Wq none 190 0 [some (.ref (118 : Nat)), some (.int x), some (.int y), some (.int z)] [] σ _
      simp only [w190_0, w190_1, w190_2, w190_5, w190_8, w190_9, w190_10, w190_13, w190_16, w190_18, w190_19, w190_20, w190_21, w190_22, w190_23, w190_26, w190_29, w190_30, w190_31, w190_32, w190_33, w190_36, w190_39, w190_41, ks_118, c_isSet_f hM hc hw hx, ↓reduceIte, Option.toList_some, Option.toList_none, List.cons_append, List.nil_append, and_self]
theorem pr_meet (x z : Int32) (hI : Inv σ) : Pr Inv 104 191 [.int x, .int z] σ := by
  obtain ⟨c, n, k, p, q, im, h, hs, ht, m, bg, bx, L, tx, f, s, hWA, hCA, hMA⟩ := id hI; obtain ⟨hw, hwn, ⟨hk16, hkp⟩, ⟨hq4, hqi⟩, ⟨hh9, hhs, hht⟩, ⟨hm15, hmb⟩, ⟨hL240, htx⟩, hs31⟩ := id hWA; obtain ⟨⟨P, D, hPD, hB, hC, hD⟩, hN, hPa, hIm, hHe, hBk, hTx, hF, hS, hSc⟩ := id hCA; obtain ⟨hM, hc, hn, hmP, hmI, hmH, hmB, hmT, hmF, hmS⟩ := id hMA
  obtain ⟨b0, b3, b4, b5, b6, b7, b8, b9, b10, b11, b12⟩ := id hB
  obtain ⟨w0, w2, w3, w4, w5, w6, w7, w8, w9⟩ := id hw
  have kP := hC.1.1
  rcases set_cs hw x with ⟨s', hs', rfl⟩ | hx
  · rcases ix_cs z (show 2 < 2 ^ 31 by omega) with ⟨g, hg, rfl⟩ | ⟨hz, hz2⟩
    · have a1 : ¬ nI g < nI 0 := nI_pos (by omega)
      have a2 : nI g ≤ nI 1 := nI_le (by omega) (by omega)
      have hin := in_yes (j := g) (N := 1) (by omega) (by omega)
      have hx8 : ∀ k : Nat, none = some k → k < 8 := fun k h => by cases h
      refine pr_ex (Er_ex ?_)
      show Wq none 104 0 [some (.ref (0 : Nat)), some (.int (nI s')), some (.int (nI g))] [] σ _
      have cf : ∀ Q : Option Value → dm_G → Prop, (∀ ρ, (∀ a b, ¬ ((a = 110 ∧ b = 3) ∨ (110 < a ∧ a < 114)) → ρ a b = σ a b) → Q (some (.int (wvF c none g s'))) ρ) → Cq 72 [(.ref (110 : Nat)), .ref P, .int (nI s'), .int (-1), .int (nI g)] σ Q := fun Q hq => Er_ex (c_find (x := none) hg hx8 hPD hC hw hSc hs' hq)
      have fin : ∀ ρ, (∀ a b, ¬ ((a = 110 ∧ b = 3) ∨ (110 < a ∧ a < 114)) → ρ a b = σ a b) → ∃ v : Int32, (some (.int (wvF c none g s')) : Option Value) = some (.int v) ∧ Cq 191 [(.ref (118 : Nat)), .int (nI s'), .int (nI g)] ρ (fun r2 σ2 => r2 = some (.int v) ∧ Inv σ2) := by
        intro ρ hk
        have hIr := inv_kc hI hk
        have hMA2 := MA_lo hMA (fun a b z => hk a b (by omega))
        obtain ⟨gM, gc, -⟩ := id hMA2
        refine ⟨_, rfl, Er_ex ?_⟩
        show Wq none 191 0 [some (.ref (118 : Nat)), some (.int (nI s')), some (.int (nI g))] [] ρ _
        simp only [w191_0, w191_1, w191_2, w191_5, w191_8, w191_10, w191_11, w191_12, w191_13, w191_14, w191_15, w191_18, w191_21, w191_22, w191_23, w191_24, w191_25, w191_31, w191_33, ks_118, c_isSet (x := nI s') gM gc hw ⟨s', hs', rfl⟩, nI_ne1, c_in, hin, ↓reduceIte, Option.toList_some, Option.toList_none, List.cons_append, List.nil_append]
        refine Er_ex (c_waves (x := none) hg hx8 gM gc hw hs' (fun ρ' hk' => ?_))
        simp only [w191_0, w191_1, w191_2, w191_5, w191_8, w191_10, w191_11, w191_12, w191_13, w191_14, w191_15, w191_18, w191_21, w191_22, w191_23, w191_24, w191_25, w191_28, w191_31, w191_33, ↓reduceIte, Option.toList_some, Option.toList_none, List.cons_append, List.nil_append, true_and]
        exact inv_km hIr hk'
      by_cases hg1 : g = 1
      · subst hg1
        simp only [w104_0, w104_1, w104_4, w104_5, w104_8, w104_11, w104_13, w104_14, w104_15, w104_18, w104_19, w104_20, w104_23, w104_25, w104_26, w104_27, w104_30, w104_31, w104_34, w104_35, w104_36, w104_37, w104_38, w104_41, w104_42, w104_45, w104_46, ks_0, ks_110, kP, b4, b11, c_hasAll hC hw hs', nI_ne1, a1, a2, ↓reduceIte, Option.toList_some, Option.toList_none, List.cons_append, List.nil_append]
        refine cf _ (fun ρ hk => ?_)
        simp only [w104_0, w104_1, w104_4, w104_5, w104_8, w104_11, w104_13, w104_14, w104_15, w104_18, w104_19, w104_20, w104_23, w104_25, w104_26, w104_27, w104_30, w104_31, w104_34, w104_35, w104_36, w104_37, w104_38, w104_41, w104_42, w104_45, w104_46, w104_49, ↓reduceIte, Option.toList_some, Option.toList_none, List.cons_append, List.nil_append]
        exact fin ρ hk
      · obtain rfl : g = 0 := by omega
        simp only [w104_0, w104_1, w104_4, w104_5, w104_8, w104_11, w104_13, w104_14, w104_15, w104_18, w104_19, w104_20, w104_23, w104_25, w104_26, w104_27, w104_30, w104_31, w104_34, w104_35, w104_36, w104_37, w104_38, w104_41, w104_42, w104_45, w104_46, ks_0, ks_110, kP, b4, b11, c_hasAll hC hw hs', nI_ne1, a1, a2, (by decide : ¬ nI 0 = nI 1), ↓reduceIte, Option.toList_some, Option.toList_none, List.cons_append, List.nil_append]
        refine cf _ (fun ρ hk => ?_)
        simp only [w104_0, w104_1, w104_4, w104_5, w104_8, w104_11, w104_13, w104_14, w104_15, w104_18, w104_19, w104_20, w104_23, w104_25, w104_26, w104_27, w104_30, w104_31, w104_34, w104_35, w104_36, w104_37, w104_38, w104_41, w104_42, w104_45, w104_46, w104_49, ↓reduceIte, Option.toList_some, Option.toList_none, List.cons_append, List.nil_append]
        exact fin ρ hk
    · have hin := in_no (x := z) (N := 1) (by omega) hz2
      refine pr_of (v := -1000000002) (σ1 := σ) (σ2 := σ) (fun Q => Cq_of (Er_of ?_)) (fun Q => Cq_of (Er_of ?_)) hI
      · show Wq none 104 0 [some (.ref (0 : Nat)), some (.int (nI s')), some (.int z)] [] σ _
        by_cases h0 : z < nI 0
        · simp only [w104_0, w104_1, w104_4, w104_5, w104_8, w104_11, w104_13, w104_14, w104_15, w104_18, w104_19, w104_20, w104_23, w104_25, w104_26, w104_27, w104_30, w104_31, w104_34, w104_35, w104_36, w104_37, w104_38, w104_41, w104_42, w104_45, w104_46, w104_49, ks_0, kP, b4, c_hasAll hC hw hs', nI_ne1, h0, ↓reduceIte, Option.toList_some, Option.toList_none, List.cons_append, List.nil_append, and_self]
        · simp only [w104_0, w104_1, w104_4, w104_5, w104_8, w104_11, w104_13, w104_14, w104_15, w104_18, w104_19, w104_20, w104_23, w104_25, w104_26, w104_27, w104_30, w104_31, w104_34, w104_35, w104_36, w104_37, w104_38, w104_41, w104_42, w104_45, w104_46, w104_49, ks_0, kP, b4, c_hasAll hC hw hs', nI_ne1, h0, nle_le (N := 1) (by omega) h0 hz, ↓reduceIte, Option.toList_some, Option.toList_none, List.cons_append, List.nil_append, and_self]
      · show Wq none 191 0 [some (.ref (118 : Nat)), some (.int (nI s')), some (.int z)] [] σ _
        simp only [w191_0, w191_1, w191_2, w191_5, w191_8, w191_10, w191_11, w191_12, w191_13, w191_14, w191_15, w191_18, w191_21, w191_22, w191_23, w191_24, w191_25, w191_28, w191_31, w191_33, ks_118, c_isSet (x := nI s') hM hc hw ⟨s', hs', rfl⟩, nI_ne1, c_in, hin, ↓reduceIte, Option.toList_some, Option.toList_none, List.cons_append, List.nil_append, and_self]
  · refine pr_of (v := -1000000001) (σ1 := σ) (σ2 := σ) (fun Q => Cq_of (Er_of ?_)) (fun Q => Cq_of (Er_of ?_)) hI
    · show Wq none 104 0 [some (.ref (0 : Nat)), some (.int x), some (.int z)] [] σ _
      simp only [w104_0, w104_1, w104_4, w104_5, w104_8, w104_11, w104_13, w104_14, w104_15, w104_18, w104_19, w104_20, w104_23, w104_25, w104_26, w104_27, w104_30, w104_31, w104_34, w104_35, w104_36, w104_37, w104_38, w104_41, w104_42, w104_45, w104_46, w104_49, ks_0, kP, b4, c_hasAll_f hC hw hx, ↓reduceIte, Option.toList_some, Option.toList_none, List.cons_append, List.nil_append, and_self]
    · show Wq none 191 0 [some (.ref (118 : Nat)), some (.int x), some (.int z)] [] σ _
      simp only [w191_0, w191_1, w191_2, w191_5, w191_8, w191_10, w191_11, w191_12, w191_13, w191_14, w191_15, w191_18, w191_21, w191_22, w191_23, w191_24, w191_25, w191_28, w191_31, w191_33, ks_118, c_isSet_f hM hc hw hx, ↓reduceIte, Option.toList_some, Option.toList_none, List.cons_append, List.nil_append, and_self]
end W2
