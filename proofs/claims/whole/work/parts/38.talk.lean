/-! who must talk: the reference's least set found from below, the class's from above -/
/-- set t is better told than b -/
def tbN (n : Nat → Nat) (m s : Nat) : Option Nat → Option Nat := fun b => if hdN n s m = haN n m ∧ (b = none ∨ ∃ k, b = some k ∧ pcN s < pcN k) then some s else b
def tkN (n : Nat → Nat) (m : Nat) : Nat → Option Nat := fun s => match s with
  | 0 => none
  | s + 1 => tbN n m s (tkN n m s)
theorem tkN_lt {n : Nat → Nat} {m : Nat} : ∀ s k, tkN n m s = some k → k < s := by
  intro s
  induction s with
  | zero => intro k h; cases h
  | succ s ih =>
    intro k h
    rw [tkN, tbN] at h
    split at h
    · cases h; omega
    · have := ih k h; omega
theorem hdN_lt {n : Nat → Nat} {s m : Nat} (h : ∀ g, g < m → n (12 + g) < 256) : hdN n s m < 256 := by
  induction m with
  | zero => exact (by decide : 0 < 256)
  | succ m ih =>
    have i := ih (fun g hg => h g (by omega))
    rw [hdN]
    split
    · exact Nat.or_lt_two_pow (n := 8) i (h m (by omega))
    · exact i
theorem haN_lt {n : Nat → Nat} {m : Nat} (h : ∀ g, g < m → n (12 + g) < 256) : haN n m < 256 := by
  induction m with
  | zero => exact (by decide : 0 < 256)
  | succ m ih =>
    rw [haN]
    exact Nat.or_lt_two_pow (n := 8) (ih (fun g hg => h g (by omega))) (h m (by omega))
theorem pc_le (s : Nat) : pcN s ≤ 8 := by unfold pcN; omega
section TK
variable {σ : dm_G} {c n : Nat → Nat} {Q : Option Value → dm_G → Prop}
theorem l_tkG {s : Nat} {b : Int32} {R : Prop} (hM : MR σ) (hc : MC σ c) (hn : MN σ n) (hw : WC c) (hs : s < 64) (kk : ∀ v : Option Value, Wq none 160 99 [some (.ref (118 : Nat)), some (.int (nI (haN n (c 2)))), some (.int b), some (.int (nI s)), some (.int (nI (hdN n s (c 2)))), v] [] σ Q = R) : ∀ (f g : Nat), g + f = c 2 → Wq none 160 54 [some (.ref (118 : Nat)), some (.int (nI (haN n (c 2)))), some (.int b), some (.int (nI s)), some (.int (nI (hdN n s g))), some (.int (nI g))] [] σ Q = R := by
  obtain ⟨m0, m1, m2, m3, m5, m6, m8, m11, m12, m14, m22, m23, m24, m25, m29, m30, m31, m32⟩ := id hM
  obtain ⟨w0, w2, w3, w4, w5, w6, w7, w8, w9⟩ := id hw
  intro f
  induction f with
  | zero =>
    intro g hg
    obtain rfl : g = c 2 := by omega
    have h1 : nI (c 2) ≤ nI (c 2) := nI_le (Nat.le_refl _) (by omega)
    rw [w160_54]
    simp only [w160_0, w160_1, w160_2, w160_3, w160_5, w160_6, w160_9, w160_10, w160_11, w160_14, w160_15, w160_16, w160_19, w160_21, w160_22, w160_23, w160_24, w160_25, w160_26, w160_29, w160_32, w160_33, w160_34, w160_35, w160_37, w160_38, w160_39, w160_42, w160_43, w160_44, w160_45, w160_48, w160_49, w160_51, w160_52, w160_56, w160_57, w160_60, w160_61, w160_62, w160_65, w160_67, w160_68, w160_70, w160_73, w160_76, w160_77, w160_80, w160_82, w160_84, w160_85, w160_86, w160_89, w160_90, w160_91, w160_93, w160_96, w160_101, w160_102, w160_105, w160_106, w160_107, w160_110, w160_111, w160_114, w160_115, w160_118, w160_121, w160_122, w160_125, w160_126, w160_127, w160_130, w160_133, w160_134, ks_118, m0, kt_119, in_nI (show 2 < kl 119 by rw [kl_119]; omega) (by rw [kl_119]; omega), nI_clamp (show 2 < 2 ^ 31 by omega), hc 2 (by omega), h1, ↓reduceIte, Option.toList_some, Option.toList_none, List.cons_append, List.nil_append]
    exact kk _
  | succ f ih =>
    intro g hg
    have h1 : ¬ nI (c 2) ≤ nI g := nI_ge (by omega) (by omega)
    have ih := ih (g + 1) (by omega)
    rw [w160_54]
    by_cases hb : s.testBit g = true
    · rw [hdN, if_pos hb] at ih
      simp only [w160_0, w160_1, w160_2, w160_3, w160_5, w160_6, w160_9, w160_10, w160_11, w160_14, w160_15, w160_16, w160_19, w160_21, w160_22, w160_23, w160_24, w160_25, w160_26, w160_29, w160_32, w160_33, w160_34, w160_35, w160_37, w160_38, w160_39, w160_42, w160_43, w160_44, w160_45, w160_48, w160_49, w160_51, w160_52, w160_56, w160_57, w160_60, w160_61, w160_62, w160_65, w160_67, w160_68, w160_70, w160_73, w160_76, w160_77, w160_80, w160_82, w160_84, w160_85, w160_86, w160_89, w160_90, w160_91, w160_93, w160_96, w160_101, w160_102, w160_105, w160_106, w160_107, w160_110, w160_111, w160_114, w160_115, w160_118, w160_121, w160_122, w160_125, w160_126, w160_127, w160_130, w160_133, w160_134, ks_118, m0, m2, kt_119, kt_121, in_nI (show 2 < kl 119 by rw [kl_119]; omega) (by rw [kl_119]; omega), nI_clamp (show 2 < 2 ^ 31 by omega), hc 2 (by omega), h1, c_has (show s < 2 ^ 31 by omega) (show g < 32 by omega), hb, nI_ne1, in_nI (show 12 + g < kl 121 by rw [kl_121]; omega) (by rw [kl_121]; omega), nI_clamp (show 12 + g < 2 ^ 31 by omega), hn (12 + g) (by omega), nI_or, nI_add, ↓reduceIte, Option.toList_some, Option.toList_none, List.cons_append, List.nil_append]
      exact ih
    · rw [hdN, if_neg hb] at ih
      simp only [w160_0, w160_1, w160_2, w160_3, w160_5, w160_6, w160_9, w160_10, w160_11, w160_14, w160_15, w160_16, w160_19, w160_21, w160_22, w160_23, w160_24, w160_25, w160_26, w160_29, w160_32, w160_33, w160_34, w160_35, w160_37, w160_38, w160_39, w160_42, w160_43, w160_44, w160_45, w160_48, w160_49, w160_51, w160_52, w160_56, w160_57, w160_60, w160_61, w160_62, w160_65, w160_67, w160_68, w160_70, w160_73, w160_76, w160_77, w160_80, w160_82, w160_84, w160_85, w160_86, w160_89, w160_90, w160_91, w160_93, w160_96, w160_101, w160_102, w160_105, w160_106, w160_107, w160_110, w160_111, w160_114, w160_115, w160_118, w160_121, w160_122, w160_125, w160_126, w160_127, w160_130, w160_133, w160_134, ks_118, m0, m2, kt_119, kt_121, in_nI (show 2 < kl 119 by rw [kl_119]; omega) (by rw [kl_119]; omega), nI_clamp (show 2 < 2 ^ 31 by omega), hc 2 (by omega), h1, c_has (show s < 2 ^ 31 by omega) (show g < 32 by omega), hb, nI_or, Nat.or_zero, nI_add, ↓reduceIte, Option.toList_some, Option.toList_none, List.cons_append, List.nil_append, Bool.false_eq_true]
      exact ih
theorem l_tkS (hM : MR σ) (hc : MC σ c) (hn : MN σ n) (hw : WC c) (hh : ∀ g, g < c 2 → n (12 + g) < 256) : ∀ (f s : Nat) (v4 v5 : Option Value), s + f = 1 <<< c 2 → Wq none 160 36 [some (.ref (118 : Nat)), some (.int (nI (haN n (c 2)))), some (.int (oI (tkN n (c 2) s))), some (.int (nI s)), v4, v5] [] σ Q = Q (some (.int (oI (tkN n (c 2) (1 <<< c 2))))) σ := by
  obtain ⟨m0, m1, m2, m3, m5, m6, m8, m11, m12, m14, m22, m23, m24, m25, m29, m30, m31, m32⟩ := id hM
  obtain ⟨w0, w2, w3, w4, w5, w6, w7, w8, w9⟩ := id hw
  have hp : 1 <<< c 2 ≤ 64 := by
    rw [Nat.one_shiftLeft]
    exact Nat.pow_le_pow_right (n := 2) (by decide) w2
  intro f
  induction f with
  | zero =>
    intro s v4 v5 hs
    obtain rfl : s = 1 <<< c 2 := by omega
    have h1 : nI (1 <<< c 2) ≤ nI (1 <<< c 2) := nI_le (Nat.le_refl _) (by omega)
    rw [w160_36]
    simp only [w160_0, w160_1, w160_2, w160_3, w160_5, w160_6, w160_9, w160_10, w160_11, w160_14, w160_15, w160_16, w160_19, w160_21, w160_22, w160_23, w160_24, w160_25, w160_26, w160_29, w160_32, w160_33, w160_34, w160_35, w160_37, w160_38, w160_39, w160_42, w160_43, w160_44, w160_45, w160_48, w160_49, w160_51, w160_52, w160_56, w160_57, w160_60, w160_61, w160_62, w160_65, w160_67, w160_68, w160_70, w160_73, w160_76, w160_77, w160_80, w160_82, w160_84, w160_85, w160_86, w160_89, w160_90, w160_91, w160_93, w160_96, w160_101, w160_102, w160_105, w160_106, w160_107, w160_110, w160_111, w160_114, w160_115, w160_118, w160_121, w160_122, w160_125, w160_126, w160_127, w160_130, w160_133, w160_134, ks_118, m0, kt_119, in_nI (show 2 < kl 119 by rw [kl_119]; omega) (by rw [kl_119]; omega), nI_clamp (show 2 < 2 ^ 31 by omega), hc 2 (by omega), nI_shl 1 (show c 2 < 32 by omega), h1, ↓reduceIte, Option.toList_some, Option.toList_none, List.cons_append, List.nil_append]
  | succ f ih =>
    intro s v4 v5 hs
    have h1 : ¬ nI (1 <<< c 2) ≤ nI s := nI_ge (by omega) (by omega)
    have ih := fun v4 v5 => ih (s + 1) v4 v5 (by omega)
    have hH := hdN_lt (s := s) hh
    have hA := haN_lt hh
    have hG := l_tkG (Q := Q) (b := oI (tkN n (c 2) s)) (s := s) (R := Q (some (.int (oI (tkN n (c 2) (1 <<< c 2))))) σ) hM hc hn hw (by omega) (fun v => by
      rw [w160_99]
      rw [tkN, tbN] at ih
      have he : nI (hdN n s (c 2)) = nI (haN n (c 2)) ↔ hdN n s (c 2) = haN n (c 2) := nI_eq (by omega) (by omega)
      by_cases h2 : hdN n s (c 2) = haN n (c 2)
      · cases hb : tkN n (c 2) s with
        | none =>
          rw [hb, if_pos ⟨h2, Or.inl rfl⟩] at ih
          simp only [w160_0, w160_1, w160_2, w160_3, w160_5, w160_6, w160_9, w160_10, w160_11, w160_14, w160_15, w160_16, w160_19, w160_21, w160_22, w160_23, w160_24, w160_25, w160_26, w160_29, w160_32, w160_33, w160_34, w160_35, w160_37, w160_38, w160_39, w160_42, w160_43, w160_44, w160_45, w160_48, w160_49, w160_51, w160_52, w160_56, w160_57, w160_60, w160_61, w160_62, w160_65, w160_67, w160_68, w160_70, w160_73, w160_76, w160_77, w160_80, w160_82, w160_84, w160_85, w160_86, w160_89, w160_90, w160_91, w160_93, w160_96, w160_101, w160_102, w160_105, w160_106, w160_107, w160_110, w160_111, w160_114, w160_115, w160_118, w160_121, w160_122, w160_125, w160_126, w160_127, w160_130, w160_133, w160_134, he, h2, oI, nI_add, ↓reduceIte, Option.toList_some, Option.toList_none, List.cons_append, List.nil_append]
          exact ih _ _
        | some k =>
          have hk := tkN_lt s k hb
          have h3 : ¬ nI k = (-1 : Int32) := fun z => nI_m1 (show k < 2 ^ 31 by omega) z.symm
          by_cases h4 : pcN s < pcN k
          · rw [hb, if_pos ⟨h2, Or.inr ⟨k, rfl, h4⟩⟩] at ih
            have h5 : ¬ nI (pcN k) ≤ nI (pcN s) := nI_ge h4 (by have := pc_le k; omega)
            simp only [w160_0, w160_1, w160_2, w160_3, w160_5, w160_6, w160_9, w160_10, w160_11, w160_14, w160_15, w160_16, w160_19, w160_21, w160_22, w160_23, w160_24, w160_25, w160_26, w160_29, w160_32, w160_33, w160_34, w160_35, w160_37, w160_38, w160_39, w160_42, w160_43, w160_44, w160_45, w160_48, w160_49, w160_51, w160_52, w160_56, w160_57, w160_60, w160_61, w160_62, w160_65, w160_67, w160_68, w160_70, w160_73, w160_76, w160_77, w160_80, w160_82, w160_84, w160_85, w160_86, w160_89, w160_90, w160_91, w160_93, w160_96, w160_101, w160_102, w160_105, w160_106, w160_107, w160_110, w160_111, w160_114, w160_115, w160_118, w160_121, w160_122, w160_125, w160_126, w160_127, w160_130, w160_133, w160_134, he, h2, oI, h3, c_bits (show s < 256 by omega), c_bits (show k < 256 by omega), h5, nI_add, ↓reduceIte, Option.toList_some, Option.toList_none, List.cons_append, List.nil_append]
            exact ih _ _
          · rw [hb, if_neg (fun z => by
              rcases z.2 with z | ⟨k', z, z4⟩
              · cases z
              · cases z; exact h4 z4)] at ih
            have h5 : nI (pcN k) ≤ nI (pcN s) := nI_le (by omega) (by have := pc_le s; omega)
            simp only [w160_0, w160_1, w160_2, w160_3, w160_5, w160_6, w160_9, w160_10, w160_11, w160_14, w160_15, w160_16, w160_19, w160_21, w160_22, w160_23, w160_24, w160_25, w160_26, w160_29, w160_32, w160_33, w160_34, w160_35, w160_37, w160_38, w160_39, w160_42, w160_43, w160_44, w160_45, w160_48, w160_49, w160_51, w160_52, w160_56, w160_57, w160_60, w160_61, w160_62, w160_65, w160_67, w160_68, w160_70, w160_73, w160_76, w160_77, w160_80, w160_82, w160_84, w160_85, w160_86, w160_89, w160_90, w160_91, w160_93, w160_96, w160_101, w160_102, w160_105, w160_106, w160_107, w160_110, w160_111, w160_114, w160_115, w160_118, w160_121, w160_122, w160_125, w160_126, w160_127, w160_130, w160_133, w160_134, he, h2, oI, h3, c_bits (show s < 256 by omega), c_bits (show k < 256 by omega), h5, nI_add, ↓reduceIte, Option.toList_some, Option.toList_none, List.cons_append, List.nil_append]
            exact ih _ _
      · rw [if_neg (fun z => h2 z.1)] at ih
        simp only [w160_0, w160_1, w160_2, w160_3, w160_5, w160_6, w160_9, w160_10, w160_11, w160_14, w160_15, w160_16, w160_19, w160_21, w160_22, w160_23, w160_24, w160_25, w160_26, w160_29, w160_32, w160_33, w160_34, w160_35, w160_37, w160_38, w160_39, w160_42, w160_43, w160_44, w160_45, w160_48, w160_49, w160_51, w160_52, w160_56, w160_57, w160_60, w160_61, w160_62, w160_65, w160_67, w160_68, w160_70, w160_73, w160_76, w160_77, w160_80, w160_82, w160_84, w160_85, w160_86, w160_89, w160_90, w160_91, w160_93, w160_96, w160_101, w160_102, w160_105, w160_106, w160_107, w160_110, w160_111, w160_114, w160_115, w160_118, w160_121, w160_122, w160_125, w160_126, w160_127, w160_130, w160_133, w160_134, he, h2, nI_add, ↓reduceIte, Option.toList_some, Option.toList_none, List.cons_append, List.nil_append]
        exact ih _ _) (c 2) 0 (by omega)
    rw [w160_36]
    simp only [w160_0, w160_1, w160_2, w160_3, w160_5, w160_6, w160_9, w160_10, w160_11, w160_14, w160_15, w160_16, w160_19, w160_21, w160_22, w160_23, w160_24, w160_25, w160_26, w160_29, w160_32, w160_33, w160_34, w160_35, w160_37, w160_38, w160_39, w160_42, w160_43, w160_44, w160_45, w160_48, w160_49, w160_51, w160_52, w160_56, w160_57, w160_60, w160_61, w160_62, w160_65, w160_67, w160_68, w160_70, w160_73, w160_76, w160_77, w160_80, w160_82, w160_84, w160_85, w160_86, w160_89, w160_90, w160_91, w160_93, w160_96, w160_101, w160_102, w160_105, w160_106, w160_107, w160_110, w160_111, w160_114, w160_115, w160_118, w160_121, w160_122, w160_125, w160_126, w160_127, w160_130, w160_133, w160_134, ks_118, m0, kt_119, in_nI (show 2 < kl 119 by rw [kl_119]; omega) (by rw [kl_119]; omega), nI_clamp (show 2 < 2 ^ 31 by omega), hc 2 (by omega), nI_shl 1 (show c 2 < 32 by omega), h1, ↓reduceIte, Option.toList_some, Option.toList_none, List.cons_append, List.nil_append]
    exact hG
theorem c_talk (hM : MR σ) (hc : MC σ c) (hn : MN σ n) (hw : WC c) (hh : ∀ g, g < c 2 → n (12 + g) < 256) : Cq 160 [(.ref (118 : Nat))] σ Q = Q (some (.int (oI (tkN n (c 2) (1 <<< c 2))))) σ := by
  refine Cq_of (Er_of ?_)
  show Wq none 160 0 [some (.ref (118 : Nat)), none, none, none, none, none] [] _ _
  have h3 := l_tkS (Q := fun r' σ2 => r' = some (.int (oI (tkN n (c 2) (1 <<< c 2)))) ∧ σ2 = σ) hM hc hn hw hh (1 <<< c 2) 0 none none (by omega)
  have h4 := l_tkA (Q := fun r' σ2 => r' = some (.int (oI (tkN n (c 2) (1 <<< c 2)))) ∧ σ2 = σ) hM hc hn hw (fun _ => rfl) (c 2) 0 (by omega)
  rw [show tkN n (c 2) 0 = none from rfl, show oI none = (-1 : Int32) from rfl] at h3
  rw [show haN n 0 = 0 from rfl] at h4
  simp only [w160_0, w160_1, w160_2, w160_3, w160_5, w160_6, w160_9, w160_10, w160_11, w160_14, w160_15, w160_16, w160_19, w160_21, w160_22, w160_23, w160_24, w160_25, w160_26, w160_29, w160_32, w160_33, w160_34, w160_35, w160_37, w160_38, w160_39, w160_42, w160_43, w160_44, w160_45, w160_48, w160_49, w160_51, w160_52, w160_56, w160_57, w160_60, w160_61, w160_62, w160_65, w160_67, w160_68, w160_70, w160_73, w160_76, w160_77, w160_80, w160_82, w160_84, w160_85, w160_86, w160_89, w160_90, w160_91, w160_93, w160_96, w160_101, w160_102, w160_105, w160_106, w160_107, w160_110, w160_111, w160_114, w160_115, w160_118, w160_121, w160_122, w160_125, w160_126, w160_127, w160_130, w160_133, w160_134, h4, h3, and_self]
end TK
/-- the class's: from above, a set as good as the best so far takes its place -/
def ckN (n : Nat → Nat) (m : Nat) : Nat → Nat := fun k => match k with
  | 0 => 2 ^ m - 1
  | k + 1 => if hdN n (2 ^ m - 1 - k) m = hdN n (2 ^ m - 1) m ∧ pcN (2 ^ m - 1 - k) ≤ pcN (ckN n m k) then 2 ^ m - 1 - k else ckN n m k
theorem hd_full {n : Nat → Nat} {m : Nat} : ∀ g, g ≤ m → hdN n (2 ^ m - 1) g = haN n g := by
  intro g
  induction g with
  | zero => intro _; rfl
  | succ g ih =>
    intro hg
    rw [hdN, haN, ih (by omega), if_pos (by rw [Nat.testBit_two_pow_sub_one]; exact decide_eq_true (by omega))]
theorem tk_best {n : Nat → Nat} {m : Nat} : ∀ s, match tkN n m s with
    | some b => b < s ∧ hdN n b m = haN n m ∧ ∀ t, t < s → hdN n t m = haN n m → pcN b < pcN t ∨ (pcN b = pcN t ∧ b ≤ t)
    | none => ∀ t, t < s → ¬ hdN n t m = haN n m := by
  intro s
  induction s with
  | zero => exact fun t ht => by omega
  | succ s ih =>
    rw [tkN, tbN]
    cases hb : tkN n m s with
    | none =>
      rw [hb] at ih
      dsimp only at ih
      by_cases h : hdN n s m = haN n m
      · rw [if_pos ⟨h, Or.inl rfl⟩]
        refine ⟨by omega, h, fun t ht h2 => ?_⟩
        by_cases e : t = s
        · exact Or.inr ⟨by rw [e], by omega⟩
        · exact absurd h2 (ih t (by omega))
      · rw [if_neg (fun z => h z.1)]
        intro t ht h2
        by_cases e : t = s
        · rw [e] at h2; exact h h2
        · exact ih t (by omega) h2
    | some k =>
      rw [hb] at ih
      dsimp only at ih
      obtain ⟨i1, i2, i3⟩ := ih
      by_cases h : hdN n s m = haN n m ∧ pcN s < pcN k
      · rw [if_pos ⟨h.1, Or.inr ⟨k, rfl, h.2⟩⟩]
        refine ⟨by omega, h.1, fun t ht h2 => ?_⟩
        by_cases e : t = s
        · exact Or.inr ⟨by rw [e], by omega⟩
        · have := i3 t (by omega) h2
          omega
      · rw [if_neg (fun z => h ⟨z.1, by
          rcases z.2 with z | ⟨k', z, z4⟩
          · cases z
          · cases z; exact z4⟩)]
        refine ⟨by omega, i2, fun t ht h2 => ?_⟩
        by_cases e : t = s
        · rw [e] at h2 ⊢
          have : ¬ pcN s < pcN k := fun z => h ⟨h2, z⟩
          omega
        · exact i3 t (by omega) h2
theorem ck_best {n : Nat → Nat} {m : Nat} : ∀ k, k ≤ 2 ^ m → 2 ^ m - k ≤ ckN n m k + (if k = 0 then 1 else 0) ∧ ckN n m k ≤ 2 ^ m - 1 ∧ hdN n (ckN n m k) m = haN n m ∧ ∀ t, t ≤ 2 ^ m - 1 → 2 ^ m - k ≤ t → hdN n t m = haN n m → pcN (ckN n m k) < pcN t ∨ (pcN (ckN n m k) = pcN t ∧ ckN n m k ≤ t) := by
  have hp : 0 < 2 ^ m := Nat.two_pow_pos m
  have hf : hdN n (2 ^ m - 1) m = haN n m := hd_full m (Nat.le_refl _)
  intro k
  induction k with
  | zero =>
    intro _
    refine ⟨?_, Nat.le_refl _, hf, fun t h1 h2 _ => by omega⟩
    rw [if_pos rfl, ckN]
    omega
  | succ k ih =>
    intro hk
    obtain ⟨i0, i1, i2, i3⟩ := ih (by omega)
    have i0' : 2 ^ m - 1 - k ≤ ckN n m k := by
      by_cases e : k = 0
      · rw [if_pos e] at i0; omega
      · rw [if_neg e] at i0; omega
    rw [if_neg (by omega : ¬ k + 1 = 0)]
    by_cases h : hdN n (2 ^ m - 1 - k) m = haN n m ∧ pcN (2 ^ m - 1 - k) ≤ pcN (ckN n m k)
    · have e1 : ckN n m (k + 1) = 2 ^ m - 1 - k := by rw [ckN, hf, if_pos h]
      rw [e1]
      refine ⟨by omega, by omega, h.1, fun t h1 h2 h3 => ?_⟩
      by_cases e : t = 2 ^ m - 1 - k
      · exact Or.inr ⟨by rw [e], by omega⟩
      · have := i3 t h1 (by omega) h3
        omega
    · have e1 : ckN n m (k + 1) = ckN n m k := by rw [ckN, hf, if_neg h]
      rw [e1]
      refine ⟨by omega, i1, i2, fun t h1 h2 h3 => ?_⟩
      by_cases e : t = 2 ^ m - 1 - k
      · rw [e] at h3 ⊢
        have : ¬ pcN (2 ^ m - 1 - k) ≤ pcN (ckN n m k) := fun z => h ⟨h3, z⟩
        omega
      · exact i3 t h1 (by omega) h3
theorem tk_eq {n : Nat → Nat} {m : Nat} : tkN n m (2 ^ m) = some (ckN n m (2 ^ m)) := by
  have hp : 0 < 2 ^ m := Nat.two_pow_pos m
  have hf : hdN n (2 ^ m - 1) m = haN n m := hd_full m (Nat.le_refl _)
  have a := tk_best (n := n) (m := m) (2 ^ m)
  obtain ⟨b0, b1, b2, b3⟩ := ck_best (n := n) (m := m) (2 ^ m) (Nat.le_refl _)
  cases hb : tkN n m (2 ^ m) with
  | none =>
    rw [hb] at a
    exact absurd hf (a (2 ^ m - 1) (by omega))
  | some k =>
    rw [hb] at a
    obtain ⟨a1, a2, a3⟩ := a
    have x1 := a3 (ckN n m (2 ^ m)) (by omega) b2
    have x2 := b3 k (by omega) (by omega) a2
    congr 1
    omega
