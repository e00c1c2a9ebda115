/-! who leads whom: the class's table -/
theorem vD_le {len : Nat → Nat → Option Nat} {pr : Nat → Nat → Nat} {G l : Nat} : ∀ k e tk, vD len pr G l k e tk ≤ 10000 * k := by
  intro k
  induction k with
  | zero => intro e tk; exact Nat.le_refl _
  | succ k ih =>
    intro e tk
    rw [vDS]
    rcases mxG_at (f := wwO len pr l (vD len pr G l k (e + 1)) e tk) (b := vD len pr G l k (e + 1) tk) G with h1 | ⟨g, hg, h1⟩
    · rw [h1]
      have := ih (e + 1) tk
      omega
    · obtain ⟨-, -, h2⟩ := wwO_s h1
      have := ih (e + 1) (tk ||| 1 <<< g)
      omega
theorem mxG_le {f : Nat → Option Nat} {b B : Nat} (hb : b ≤ B) (hf : ∀ g w, f g = some w → w ≤ B) : ∀ N, mxG f b N ≤ B := by
  intro N
  rcases mxG_at (f := f) (b := b) N with h1 | ⟨g, hg, h1⟩
  · omega
  · exact hf g _ h1
/-- the class's cells for a match -/
def mtS (len : Nat → Nat → Option Nat) (pr : Nat → Nat → Nat) (n G : Nat) (ρ : dm_G) : Prop := ρ 114 0 = .int (nI G) ∧ ρ 114 1 = .int (nI n) ∧ ρ 114 2 = (.ref (115 : Nat)) ∧ ρ 114 3 = (.ref (116 : Nat)) ∧ ρ 114 4 = (.ref (117 : Nat)) ∧ ∀ e g, e < n → g < G → gi ρ 115 (e * 6 + g) = oI (len e g) ∧ gi ρ 116 (e * 6 + g) = nI (pr e g)
theorem mtS_of {len : Nat → Nat → Option Nat} {pr : Nat → Nat → Nat} {n G : Nat} {ρ ρ' : dm_G} (hk : ∀ a b, (a = 114 ∧ b < 5) ∨ a = 115 ∨ a = 116 → ρ' a b = ρ a b) (h : mtS len pr n G ρ) : mtS len pr n G ρ' := by
  obtain ⟨a, b, c, d, e, f⟩ := h
  exact ⟨(hk _ _ (by omega)).trans a, (hk _ _ (by omega)).trans b, (hk _ _ (by omega)).trans c, (hk _ _ (by omega)).trans d, (hk _ _ (by omega)).trans e, fun x g hx hg => ⟨(gi_of (hk _ _ (by omega))).trans (f x g hx hg).1, (gi_of (hk _ _ (by omega))).trans (f x g hx hg).2⟩⟩
section MX
variable {len : Nat → Nat → Option Nat} {pr : Nat → Nat → Nat} {G l n : Nat} {ρ : dm_G} {Q : Option Value → dm_G → Prop}
theorem c_worthOf {e s : Nat} (h4 : ρ 114 4 = (.ref (117 : Nat))) (he : e ≤ 6) (hs : s < 64) : Cq 42 [(.ref (114 : Nat)), .int (nI e), .int (nI s)] ρ Q = Q (some (.int (gi ρ 117 (e * 64 + s)))) ρ := by
  refine Cq_of (Er_of ?_)
  show Wq none 42 0 [some (.ref (114 : Nat)), some (.int (nI e)), some (.int (nI s))] [] ρ _
  simp only [w42_0, w42_1, w42_4, w42_5, w42_7, w42_8, w42_9, w42_10, w42_13, ks_114, h4, pk_mul, nI_add, c_at kt_117 (show e * 64 + s < kl 117 by rw [kl_117]; omega) (by rw [kl_117]; omega), ↓reduceIte, Option.toList_some, Option.toList_none, List.cons_append, List.nil_append, and_self]
theorem c_worthWith {e tk g : Nat} {v : Nat → Nat} (hS : mtS len pr n G ρ) (hL : ρ 114 5 = .int (nI l)) (hl : l ≤ 8) (hn : n ≤ 6) (hG : G ≤ 6) (hlen : ∀ e g d, len e g = some d → d ≤ 8) (hp : ∀ e g, pr e g ≤ 792) (hv : ∀ s, s < 2 ^ G → gi ρ 117 ((e + 1) * 64 + s) = nI (v s)) (he : e < n) (hg : g < G) (ht : tk < 2 ^ G) : Cq 43 [(.ref (114 : Nat)), .int (nI e), .int (nI tk), .int (nI g)] ρ Q = Q (some (.int (oI (wwO len pr l v e tk g)))) ρ := by
  obtain ⟨s0, s1, s2, s3, s4, s5⟩ := id hS
  obtain ⟨a1, a2⟩ := s5 e g he hg
  have p6 : 2 ^ G ≤ 2 ^ 6 := Nat.pow_le_pow_right (by decide) hG
  have ca := fun Q => c_at (σ := ρ) (Q := Q) kt_115 (show e * 6 + g < kl 115 by rw [kl_115]; omega) (by rw [kl_115]; omega)
  rw [a1] at ca
  have cb := fun Q => c_at (σ := ρ) (Q := Q) kt_116 (show e * 6 + g < kl 116 by rw [kl_116]; omega) (by rw [kl_116]; omega)
  rw [a2] at cb
  have ht2 : tk ||| 1 <<< g < 2 ^ G := or_lt ht (one_shl hg)
  have cw := fun Q => c_worthOf (ρ := ρ) (Q := Q) (e := e + 1) (s := tk ||| 1 <<< g) s4 (by omega) (by omega)
  rw [hv _ ht2] at cw
  refine Cq_of (Er_of ?_)
  show Wq none 43 0 [some (.ref (114 : Nat)), some (.int (nI e)), some (.int (nI tk)), some (.int (nI g)), none] [] ρ _
  unfold wwO
  by_cases hb : tk.testBit g = true
  · simp only [w43_0, w43_1, w43_4, w43_5, w43_7, w43_8, w43_9, w43_10, w43_13, w43_15, w43_16, w43_17, w43_18, w43_19, w43_20, w43_23, w43_25, w43_26, w43_29, w43_31, w43_32, w43_35, w43_38, w43_39, w43_40, w43_43, w43_44, w43_47, w43_48, w43_50, w43_51, w43_52, w43_53, w43_56, w43_57, w43_58, w43_59, w43_60, w43_61, w43_62, w43_63, w43_64, w43_65, w43_66, w43_69, w43_70, ks_114, s2, pk_mul, nI_add, ca, nI_bit (show tk < 2 ^ 31 by omega) (show g < 32 by omega), hb, nI_ne1, oI, ↓reduceIte, Option.toList_some, Option.toList_none, List.cons_append, List.nil_append, and_self]
  · cases hd : len e g with
    | none =>
      rw [hd] at ca
      simp only [w43_0, w43_1, w43_4, w43_5, w43_7, w43_8, w43_9, w43_10, w43_13, w43_15, w43_16, w43_17, w43_18, w43_19, w43_20, w43_23, w43_25, w43_26, w43_29, w43_31, w43_32, w43_35, w43_38, w43_39, w43_40, w43_43, w43_44, w43_47, w43_48, w43_50, w43_51, w43_52, w43_53, w43_56, w43_57, w43_58, w43_59, w43_60, w43_61, w43_62, w43_63, w43_64, w43_65, w43_66, w43_69, w43_70, ks_114, s2, pk_mul, nI_add, ca, nI_bit (show tk < 2 ^ 31 by omega) (show g < 32 by omega), hb, oI, ↓reduceIte, Option.toList_some, Option.toList_none, List.cons_append, List.nil_append, and_self, Bool.false_eq_true]
    | some d =>
      rw [hd] at ca
      have hd8 := hlen e g d hd
      have hm1 : ¬ nI d = -1 := fun q => nI_m1 (show d < 2 ^ 31 by omega) q.symm
      have hpr := hp e g
      by_cases hdl : l < d
      · have h2 : ¬ nI d ≤ nI l := nI_ge hdl (by omega)
        simp only [w43_0, w43_1, w43_4, w43_5, w43_7, w43_8, w43_9, w43_10, w43_13, w43_15, w43_16, w43_17, w43_18, w43_19, w43_20, w43_23, w43_25, w43_26, w43_29, w43_31, w43_32, w43_35, w43_38, w43_39, w43_40, w43_43, w43_44, w43_47, w43_48, w43_50, w43_51, w43_52, w43_53, w43_56, w43_57, w43_58, w43_59, w43_60, w43_61, w43_62, w43_63, w43_64, w43_65, w43_66, w43_69, w43_70, ks_114, s2, hL, pk_mul, nI_add, ca, oIs, hm1, h2, hdl, nI_bit (show tk < 2 ^ 31 by omega) (show g < 32 by omega), hb, oI, ↓reduceIte, Option.toList_some, Option.toList_none, List.cons_append, List.nil_append, and_self, Bool.false_eq_true]
      · have h2 : nI d ≤ nI l := nI_le (by omega) (by omega)
        simp only [w43_0, w43_1, w43_4, w43_5, w43_7, w43_8, w43_9, w43_10, w43_13, w43_15, w43_16, w43_17, w43_18, w43_19, w43_20, w43_23, w43_25, w43_26, w43_29, w43_31, w43_32, w43_35, w43_38, w43_39, w43_40, w43_43, w43_44, w43_47, w43_48, w43_50, w43_51, w43_52, w43_53, w43_56, w43_57, w43_58, w43_59, w43_60, w43_61, w43_62, w43_63, w43_64, w43_65, w43_66, w43_69, w43_70, ks_114, s2, s3, hL, pk_mul, nI_add, ca, cb, oIs, hm1, h2, hdl, nI_bit (show tk < 2 ^ 31 by omega) (show g < 32 by omega), hb, pk_sub (show pr e g ≤ 10000 by omega), nI_shl 1 (show g < 32 by omega), nI_or, cw, ↓reduceIte, Option.toList_some, Option.toList_none, List.cons_append, List.nil_append, and_self, Bool.false_eq_true]
theorem mx_nI {b : Nat} {o : Option Nat} (hb : b < 2 ^ 31) (ho : ∀ w, o = some w → w < 2 ^ 31) : (if nI b < oI o then oI o else nI b) = nI (mxO b o) := by
  cases o with
  | none =>
    have h1 : ¬ nI b < (-1 : Int32) := fun q => by
      rw [Int32.lt_iff_toInt_lt, nI_toInt hb, show (-1 : Int32).toInt = -1 from rfl] at q
      omega
    show (if nI b < (-1 : Int32) then (-1 : Int32) else nI b) = nI b
    rw [if_neg h1]
  | some w => exact nI_mx hb (ho w rfl)
theorem l_fwG {k e tk : Nat} (hS : mtS len pr n G ρ) (hL : ρ 114 5 = .int (nI l)) (hl : l ≤ 8) (hn : n ≤ 6) (hG : G ≤ 6) (hlen : ∀ e g d, len e g = some d → d ≤ 8) (hp : ∀ e g, pr e g ≤ 792) (hv : ∀ s, s < 2 ^ G → gi ρ 117 ((e + 1) * 64 + s) = nI (vD len pr G l k (e + 1) s)) (hk : k ≤ 6) (he : e < n) (ht : tk < 2 ^ G) (kk : ∀ v5, Wq none 41 98 [some (.ref (114 : Nat)), some (.int (nI (1 <<< G))), some (.int (nI e)), some (.int (nI tk)), some (.int (nI (vD len pr G l (k + 1) e tk))), v5] [] ρ Q) : ∀ (f g : Nat), g + f = G → Wq none 41 68 [some (.ref (114 : Nat)), some (.int (nI (1 <<< G))), some (.int (nI e)), some (.int (nI tk)), some (.int (nI (mxG (wwO len pr l (vD len pr G l k (e + 1)) e tk) (vD len pr G l k (e + 1) tk) g))), some (.int (nI g))] [] ρ Q := by
  obtain ⟨s0, s1, s2, s3, s4, s5⟩ := id hS
  intro f
  induction f with
  | zero =>
    intro g hg
    obtain rfl : g = G := by omega
    rw [w41_68]
    simp only [w41_0, w41_1, w41_2, w41_5, w41_6, w41_7, w41_8, w41_9, w41_10, w41_11, w41_14, w41_15, w41_18, w41_19, w41_22, w41_24, w41_25, w41_26, w41_27, w41_28, w41_31, w41_34, w41_37, w41_38, w41_41, w41_42, w41_43, w41_44, w41_45, w41_48, w41_49, w41_50, w41_51, w41_52, w41_55, w41_56, w41_57, w41_58, w41_59, w41_60, w41_63, w41_65, w41_66, w41_70, w41_71, w41_74, w41_77, w41_79, w41_80, w41_81, w41_82, w41_84, w41_87, w41_90, w41_92, w41_95, w41_99, w41_102, w41_103, w41_105, w41_106, w41_107, w41_108, w41_110, w41_113, w41_116, w41_119, w41_122, w41_125, ks_114, s0, nI_le (Nat.le_refl g) (show g < 2 ^ 31 by omega), ↓reduceIte, Option.toList_some, Option.toList_none, List.cons_append, List.nil_append]
    rw [← vDS]
    exact kk _
  | succ f ih =>
    intro g hg
    have ih := ih (g + 1) (by omega)
    have h1 : ¬ nI G ≤ nI g := nI_ge (by omega) (by omega)
    have hb0 := vD_le (len := len) (pr := pr) (G := G) (l := l) k (e + 1) tk
    have hww : ∀ g w, wwO len pr l (vD len pr G l k (e + 1)) e tk g = some w → w ≤ 10000 * (k + 1) := fun g w h => by
      obtain ⟨-, -, h2⟩ := wwO_s h
      have := vD_le (len := len) (pr := pr) (G := G) (l := l) k (e + 1) (tk ||| 1 <<< g)
      omega
    have hb := mxG_le (f := wwO len pr l (vD len pr G l k (e + 1)) e tk) (b := vD len pr G l k (e + 1) tk) (B := 10000 * (k + 1)) (by omega) hww g
    rw [show mxG (wwO len pr l (vD len pr G l k (e + 1)) e tk) (vD len pr G l k (e + 1) tk) (g + 1) = mxO (mxG (wwO len pr l (vD len pr G l k (e + 1)) e tk) (vD len pr G l k (e + 1) tk) g) (wwO len pr l (vD len pr G l k (e + 1)) e tk g) from rfl] at ih
    rw [w41_68]
    simp only [w41_0, w41_1, w41_2, w41_5, w41_6, w41_7, w41_8, w41_9, w41_10, w41_11, w41_14, w41_15, w41_18, w41_19, w41_22, w41_24, w41_25, w41_26, w41_27, w41_28, w41_31, w41_34, w41_37, w41_38, w41_41, w41_42, w41_43, w41_44, w41_45, w41_48, w41_49, w41_50, w41_51, w41_52, w41_55, w41_56, w41_57, w41_58, w41_59, w41_60, w41_63, w41_65, w41_66, w41_70, w41_71, w41_74, w41_77, w41_79, w41_80, w41_81, w41_82, w41_84, w41_87, w41_90, w41_92, w41_95, w41_99, w41_102, w41_103, w41_105, w41_106, w41_107, w41_108, w41_110, w41_113, w41_116, w41_119, w41_122, w41_125, ks_114, s0, h1, c_worthWith hS hL hl hn hG hlen hp hv he (show g < G by omega) ht, mx_nI (show mxG (wwO len pr l (vD len pr G l k (e + 1)) e tk) (vD len pr G l k (e + 1) tk) g < 2 ^ 31 by omega) (fun w h => by have := hww g w h; omega), nI_add, ↓reduceIte, Option.toList_some, Option.toList_none, List.cons_append, List.nil_append]
    exact ih
theorem l_fwS {k e : Nat} {v4 v5 : Option Value} (hS : mtS len pr n G ρ) (hL : ρ 114 5 = .int (nI l)) (hl : l ≤ 8) (hn : n ≤ 6) (hG : G ≤ 6) (hlen : ∀ e g d, len e g = some d → d ≤ 8) (hp : ∀ e g, pr e g ≤ 792) (hk : e + k + 1 = n) (kk : ∀ ρ' v4 v5, (∀ a b, a ≠ 117 → ρ' a b = ρ a b) → (∀ e', e ≤ e' → e' ≤ n → ∀ s, s < 2 ^ G → gi ρ' 117 (e' * 64 + s) = nI (vD len pr G l (n - e') e' s)) → Wq none 41 119 [some (.ref (114 : Nat)), some (.int (nI (1 <<< G))), some (.int (nI e)), some (.int (nI (1 <<< G))), v4, v5] [] ρ' Q) : ∀ (f s : Nat) (ρ' : dm_G) (v4 v5 : Option Value), s + f = 2 ^ G → (∀ a b, a ≠ 117 → ρ' a b = ρ a b) → (∀ e', e + 1 ≤ e' → e' ≤ n → ∀ s, s < 2 ^ G → gi ρ' 117 (e' * 64 + s) = nI (vD len pr G l (n - e') e' s)) → (∀ s', s' < s → gi ρ' 117 (e * 64 + s') = nI (vD len pr G l (n - e) e s')) → Wq none 41 50 [some (.ref (114 : Nat)), some (.int (nI (1 <<< G))), some (.int (nI e)), some (.int (nI s)), v4, v5] [] ρ' Q := by
  have p6 : 2 ^ G ≤ 2 ^ 6 := Nat.pow_le_pow_right (by decide) hG
  intro f
  induction f with
  | zero =>
    intro s ρ' v4 v5 hs hK h1 h2
    have hs' : s = 1 <<< G := by rw [Nat.one_shiftLeft]; omega
    rw [w41_50]
    subst hs'
    simp only [w41_0, w41_1, w41_2, w41_5, w41_6, w41_7, w41_8, w41_9, w41_10, w41_11, w41_14, w41_15, w41_18, w41_19, w41_22, w41_24, w41_25, w41_26, w41_27, w41_28, w41_31, w41_34, w41_37, w41_38, w41_41, w41_42, w41_43, w41_44, w41_45, w41_48, w41_49, w41_51, w41_52, w41_55, w41_56, w41_57, w41_58, w41_59, w41_60, w41_63, w41_65, w41_66, w41_68, w41_70, w41_71, w41_74, w41_77, w41_79, w41_80, w41_81, w41_82, w41_84, w41_87, w41_90, w41_92, w41_95, w41_98, w41_99, w41_102, w41_103, w41_105, w41_106, w41_107, w41_108, w41_110, w41_113, w41_116, w41_122, w41_125, nI_le (Nat.le_refl (1 <<< G)) (show 1 <<< G < 2 ^ 31 by omega), ↓reduceIte, Option.toList_some, Option.toList_none, List.cons_append, List.nil_append]
    refine kk ρ' v4 v5 hK (fun e' a b s hs => ?_)
    by_cases z : e' = e
    · subst z
      exact h2 s (by omega)
    · exact h1 e' (by omega) b s hs
  | succ f ih =>
    intro s ρ' v4 v5 hs hK h1 h2
    have hS' : mtS len pr n G ρ' := mtS_of (fun a b z => hK a b (by omega)) hS
    have hL' : ρ' 114 5 = .int (nI l) := (hK _ _ (by omega)).trans hL
    obtain ⟨s0, s1, s2, s3, s4, s5⟩ := id hS'
    have hlt : ¬ nI (1 <<< G) ≤ nI s := nI_ge (by rw [Nat.one_shiftLeft]; omega) (by rw [Nat.one_shiftLeft]; omega)
    have hv := h1 (e + 1) (by omega) (by omega)
    rw [show n - (e + 1) = k by omega] at hv
    have cw := fun Q => c_worthOf (ρ := ρ') (Q := Q) (e := e + 1) (s := s) s4 (by omega) (by omega)
    rw [hv s (by omega)] at cw
    rw [w41_50]
    simp only [w41_0, w41_1, w41_2, w41_5, w41_6, w41_7, w41_8, w41_9, w41_10, w41_11, w41_14, w41_15, w41_18, w41_19, w41_22, w41_24, w41_25, w41_26, w41_27, w41_28, w41_31, w41_34, w41_37, w41_38, w41_41, w41_42, w41_43, w41_44, w41_45, w41_48, w41_49, w41_51, w41_52, w41_55, w41_56, w41_57, w41_58, w41_59, w41_60, w41_63, w41_65, w41_66, w41_70, w41_71, w41_74, w41_77, w41_79, w41_80, w41_81, w41_82, w41_84, w41_87, w41_90, w41_92, w41_95, w41_98, w41_99, w41_102, w41_103, w41_105, w41_106, w41_107, w41_108, w41_110, w41_113, w41_116, w41_122, w41_125, ks_114, hlt, nI_add, cw, ↓reduceIte, Option.toList_some, Option.toList_none, List.cons_append, List.nil_append]
    refine l_fwG hS' hL' hl hn hG hlen hp hv (by omega) (by omega) (show s < 2 ^ G by omega) (fun v5 => ?_) G 0 (by omega)
    simp only [w41_0, w41_1, w41_2, w41_5, w41_6, w41_7, w41_8, w41_9, w41_10, w41_11, w41_14, w41_15, w41_18, w41_19, w41_22, w41_24, w41_25, w41_26, w41_27, w41_28, w41_31, w41_34, w41_37, w41_38, w41_41, w41_42, w41_43, w41_44, w41_45, w41_48, w41_49, w41_51, w41_52, w41_55, w41_56, w41_57, w41_58, w41_59, w41_60, w41_63, w41_65, w41_66, w41_70, w41_71, w41_74, w41_77, w41_79, w41_80, w41_81, w41_82, w41_84, w41_87, w41_90, w41_92, w41_95, w41_98, w41_99, w41_102, w41_103, w41_105, w41_106, w41_107, w41_108, w41_110, w41_113, w41_116, w41_122, w41_125, ks_114, s4, pk_mul, nI_add, c_put kt_117 (show e * 64 + s < kl 117 by rw [kl_117]; omega) (by rw [kl_117]; omega), ↓reduceIte, Option.toList_some, Option.toList_none, List.cons_append, List.nil_append]
    refine ih (s + 1) _ _ _ (by omega) (fun a b z => by rw [up_get, if_neg (by omega), hK a b z]) (fun e' a b s' hs' => ?_) (fun s' hs' => ?_)
    · rw [gi_up, if_neg (by omega)]
      exact h1 e' a b s' hs'
    · rw [gi_up]
      by_cases z : s' = s
      · rw [if_pos ⟨rfl, by omega⟩, z, show n - e = k + 1 by omega]
      · rw [if_neg (by omega)]
        exact h2 s' (by omega)
theorem l_fwE (hS : mtS len pr n G ρ) (hL : ρ 114 5 = .int (nI l)) (hl : l ≤ 8) (hn : n ≤ 6) (hG : G ≤ 6) (hlen : ∀ e g d, len e g = some d → d ≤ 8) (hp : ∀ e g, pr e g ≤ 792) (kk : ∀ ρ' v2 v3 v4 v5, (∀ a b, a ≠ 117 → ρ' a b = ρ a b) → (∀ e', e' ≤ n → ∀ s, s < 2 ^ G → gi ρ' 117 (e' * 64 + s) = nI (vD len pr G l (n - e') e' s)) → Wq none 41 125 [some (.ref (114 : Nat)), some (.int (nI (1 <<< G))), v2, v3, v4, v5] [] ρ' Q) : ∀ (e : Nat) (ρ' : dm_G) (v3 v4 v5 : Option Value), e < n → (∀ a b, a ≠ 117 → ρ' a b = ρ a b) → (∀ e', e + 1 ≤ e' → e' ≤ n → ∀ s, s < 2 ^ G → gi ρ' 117 (e' * 64 + s) = nI (vD len pr G l (n - e') e' s)) → Wq none 41 44 [some (.ref (114 : Nat)), some (.int (nI (1 <<< G))), some (.int (nI e)), v3, v4, v5] [] ρ' Q := by
  intro e
  induction e with
  | zero =>
    intro ρ' v3 v4 v5 he hK h1
    rw [w41_44]
    simp only [w41_0, w41_1, w41_2, w41_5, w41_6, w41_7, w41_8, w41_9, w41_10, w41_11, w41_14, w41_15, w41_18, w41_19, w41_22, w41_24, w41_25, w41_26, w41_27, w41_28, w41_31, w41_34, w41_37, w41_38, w41_41, w41_42, w41_43, w41_45, w41_48, w41_49, w41_51, w41_52, w41_55, w41_56, w41_57, w41_58, w41_59, w41_60, w41_63, w41_65, w41_66, w41_68, w41_70, w41_71, w41_74, w41_77, w41_79, w41_80, w41_81, w41_82, w41_84, w41_87, w41_90, w41_92, w41_95, w41_98, w41_99, w41_102, w41_103, w41_105, w41_106, w41_107, w41_108, w41_110, w41_113, w41_116, w41_119, w41_122, w41_125, (by decide : ¬ nI 0 < nI 0), ↓reduceIte, Option.toList_some, Option.toList_none, List.cons_append, List.nil_append]
    refine l_fwS (v4 := v4) (v5 := v5) (k := n - 1) (e := 0) hS hL hl hn hG hlen hp (by omega) (fun ρ' v4 v5 hK h2 => ?_) (2 ^ G) 0 ρ' v4 v5 (by omega) hK h1 (fun s' hs' => absurd hs' (by omega))
    simp only [w41_0, w41_1, w41_2, w41_5, w41_6, w41_7, w41_8, w41_9, w41_10, w41_11, w41_14, w41_15, w41_18, w41_19, w41_22, w41_24, w41_25, w41_26, w41_27, w41_28, w41_31, w41_34, w41_37, w41_38, w41_41, w41_42, w41_43, w41_44, w41_45, w41_48, w41_49, w41_51, w41_52, w41_55, w41_56, w41_57, w41_58, w41_59, w41_60, w41_63, w41_65, w41_66, w41_68, w41_70, w41_71, w41_74, w41_77, w41_79, w41_80, w41_81, w41_82, w41_84, w41_87, w41_90, w41_92, w41_95, w41_98, w41_99, w41_102, w41_103, w41_105, w41_106, w41_107, w41_108, w41_110, w41_113, w41_116, w41_119, w41_122, (by decide : nI 0 + (-1) < nI 0), ↓reduceIte, Option.toList_some, Option.toList_none, List.cons_append, List.nil_append]
    exact kk ρ' _ _ _ _ hK (fun e' he' => h2 e' (Nat.zero_le _) he')
  | succ e ih =>
    intro ρ' v3 v4 v5 he hK h1
    have h0 : ¬ nI (e + 1) < nI 0 := nI_nlt (by omega) (by omega)
    rw [w41_44]
    simp only [w41_0, w41_1, w41_2, w41_5, w41_6, w41_7, w41_8, w41_9, w41_10, w41_11, w41_14, w41_15, w41_18, w41_19, w41_22, w41_24, w41_25, w41_26, w41_27, w41_28, w41_31, w41_34, w41_37, w41_38, w41_41, w41_42, w41_43, w41_45, w41_48, w41_49, w41_51, w41_52, w41_55, w41_56, w41_57, w41_58, w41_59, w41_60, w41_63, w41_65, w41_66, w41_68, w41_70, w41_71, w41_74, w41_77, w41_79, w41_80, w41_81, w41_82, w41_84, w41_87, w41_90, w41_92, w41_95, w41_98, w41_99, w41_102, w41_103, w41_105, w41_106, w41_107, w41_108, w41_110, w41_113, w41_116, w41_119, w41_122, w41_125, h0, ↓reduceIte, Option.toList_some, Option.toList_none, List.cons_append, List.nil_append]
    refine l_fwS (v4 := v4) (v5 := v5) (k := n - 1 - (e + 1)) (e := e + 1) hS hL hl hn hG hlen hp (by omega) (fun ρ' v4 v5 hK h2 => ?_) (2 ^ G) 0 ρ' v4 v5 (by omega) hK h1 (fun s' hs' => absurd hs' (by omega))
    simp only [w41_0, w41_1, w41_2, w41_5, w41_6, w41_7, w41_8, w41_9, w41_10, w41_11, w41_14, w41_15, w41_18, w41_19, w41_22, w41_24, w41_25, w41_26, w41_27, w41_28, w41_31, w41_34, w41_37, w41_38, w41_41, w41_42, w41_43, w41_45, w41_48, w41_49, w41_51, w41_52, w41_55, w41_56, w41_57, w41_58, w41_59, w41_60, w41_63, w41_65, w41_66, w41_68, w41_70, w41_71, w41_74, w41_77, w41_79, w41_80, w41_81, w41_82, w41_84, w41_87, w41_90, w41_92, w41_95, w41_98, w41_99, w41_102, w41_103, w41_105, w41_106, w41_107, w41_108, w41_110, w41_113, w41_116, w41_119, w41_122, w41_125, nI_dec, ↓reduceIte, Option.toList_some, Option.toList_none, List.cons_append, List.nil_append]
    exact ih ρ' _ _ _ (by omega) hK h2
theorem l_fwA (hS : mtS len pr n G ρ) (hL : ρ 114 5 = .int (nI l)) (hl : l ≤ 8) (hn : n ≤ 6) (hG : G ≤ 6) (hlen : ∀ e g d, len e g = some d → d ≤ 8) (hp : ∀ e g, pr e g ≤ 792) {v3 v4 v5 : Option Value} (kk : ∀ ρ', (∀ a b, a ≠ 117 → ρ' a b = ρ a b) → (∀ s, s < 2 ^ G → gi ρ' 117 (n * 64 + s) = nI 0) → Wq none 41 37 [some (.ref (114 : Nat)), some (.int (nI (1 <<< G))), some (.int (nI (1 <<< G))), v3, v4, v5] [] ρ' Q) : ∀ (f s : Nat) (ρ' : dm_G), s + f = 2 ^ G → (∀ a b, a ≠ 117 → ρ' a b = ρ a b) → (∀ s', s' < s → gi ρ' 117 (n * 64 + s') = nI 0) → Wq none 41 9 [some (.ref (114 : Nat)), some (.int (nI (1 <<< G))), some (.int (nI s)), v3, v4, v5] [] ρ' Q := by
  have p6 : 2 ^ G ≤ 2 ^ 6 := Nat.pow_le_pow_right (by decide) hG
  intro f
  induction f with
  | zero =>
    intro s ρ' hs hK h1
    have hs' : s = 1 <<< G := by rw [Nat.one_shiftLeft]; omega
    rw [w41_9]
    subst hs'
    simp only [w41_0, w41_1, w41_2, w41_5, w41_6, w41_7, w41_8, w41_10, w41_11, w41_14, w41_15, w41_18, w41_19, w41_22, w41_24, w41_25, w41_26, w41_27, w41_28, w41_31, w41_34, w41_38, w41_41, w41_42, w41_43, w41_44, w41_45, w41_48, w41_49, w41_50, w41_51, w41_52, w41_55, w41_56, w41_57, w41_58, w41_59, w41_60, w41_63, w41_65, w41_66, w41_68, w41_70, w41_71, w41_74, w41_77, w41_79, w41_80, w41_81, w41_82, w41_84, w41_87, w41_90, w41_92, w41_95, w41_98, w41_99, w41_102, w41_103, w41_105, w41_106, w41_107, w41_108, w41_110, w41_113, w41_116, w41_119, w41_122, w41_125, nI_le (Nat.le_refl (1 <<< G)) (show 1 <<< G < 2 ^ 31 by omega), ↓reduceIte, Option.toList_some, Option.toList_none, List.cons_append, List.nil_append]
    exact kk ρ' hK (fun s hs => h1 s (by omega))
  | succ f ih =>
    intro s ρ' hs hK h1
    have hS' : mtS len pr n G ρ' := mtS_of (fun a b z => hK a b (by omega)) hS
    obtain ⟨s0, s1, s2, s3, s4, s5⟩ := id hS'
    have hlt : ¬ nI (1 <<< G) ≤ nI s := nI_ge (by rw [Nat.one_shiftLeft]; omega) (by rw [Nat.one_shiftLeft]; omega)
    rw [w41_9]
    simp only [w41_0, w41_1, w41_2, w41_5, w41_6, w41_7, w41_8, w41_10, w41_11, w41_14, w41_15, w41_18, w41_19, w41_22, w41_24, w41_25, w41_26, w41_27, w41_28, w41_31, w41_34, w41_38, w41_41, w41_42, w41_43, w41_44, w41_45, w41_48, w41_49, w41_50, w41_51, w41_52, w41_55, w41_56, w41_57, w41_58, w41_59, w41_60, w41_63, w41_65, w41_66, w41_68, w41_70, w41_71, w41_74, w41_77, w41_79, w41_80, w41_81, w41_82, w41_84, w41_87, w41_90, w41_92, w41_95, w41_98, w41_99, w41_102, w41_103, w41_105, w41_106, w41_107, w41_108, w41_110, w41_113, w41_116, w41_119, w41_122, w41_125, ks_114, hlt, s1, s4, pk_mul, nI_add, c_put kt_117 (show n * 64 + s < kl 117 by rw [kl_117]; omega) (by rw [kl_117]; omega), ↓reduceIte, Option.toList_some, Option.toList_none, List.cons_append, List.nil_append]
    refine ih (s + 1) _ (by omega) (fun a b z => by rw [up_get, if_neg (by omega), hK a b z]) (fun s' hs' => ?_)
    rw [gi_up]
    by_cases z : s' = s
    · rw [if_pos ⟨rfl, by omega⟩]
    · rw [if_neg (by omega)]
      exact h1 s' (by omega)
theorem ex_of {y : Nat} {as : List Value} {σ : dm_G} {v : Option Value} {P : dm_G → Prop} (h : Cq y as σ (fun r τ => r = v ∧ P τ)) : ∃ τ, (∀ Q : Option Value → dm_G → Prop, Cq y as σ Q = Q v τ) ∧ P τ := by
  obtain ⟨r, τ, e, rfl, hP⟩ := h
  exact ⟨τ, fun Q => Cq_of e, hP⟩
theorem c_fill (hS : mtS len pr n G ρ) (hL : ρ 114 5 = .int (nI l)) (hl : l ≤ 8) (hn : n ≤ 6) (hG : G ≤ 6) (hlen : ∀ e g d, len e g = some d → d ≤ 8) (hp : ∀ e g, pr e g ≤ 792) : ∃ ρ', (∀ Q : Option Value → dm_G → Prop, Cq 41 [(.ref (114 : Nat))] ρ Q = Q none ρ') ∧ (∀ a b, a ≠ 117 → ρ' a b = ρ a b) ∧ ∀ e', e' ≤ n → ∀ s, s < 2 ^ G → gi ρ' 117 (e' * 64 + s) = nI (vD len pr G l (n - e') e' s) := by
  refine ex_of (Er_ex ?_)
  show Wq none 41 0 [some (.ref (114 : Nat)), none, none, none, none, none] [] ρ _
  obtain ⟨s0, s1, s2, s3, s4, s5⟩ := id hS
  simp only [w41_0, w41_1, w41_2, w41_5, w41_6, w41_7, w41_8, w41_10, w41_11, w41_14, w41_15, w41_18, w41_19, w41_22, w41_24, w41_25, w41_26, w41_27, w41_28, w41_31, w41_34, w41_37, w41_38, w41_41, w41_42, w41_43, w41_44, w41_45, w41_48, w41_49, w41_50, w41_51, w41_52, w41_55, w41_56, w41_57, w41_58, w41_59, w41_60, w41_63, w41_65, w41_66, w41_68, w41_70, w41_71, w41_74, w41_77, w41_79, w41_80, w41_81, w41_82, w41_84, w41_87, w41_90, w41_92, w41_95, w41_98, w41_99, w41_102, w41_103, w41_105, w41_106, w41_107, w41_108, w41_110, w41_113, w41_116, w41_119, w41_122, w41_125, ks_114, s0, nI_shl 1 (show G < 32 by omega), ↓reduceIte, Option.toList_some, Option.toList_none, List.cons_append, List.nil_append]
  refine l_fwA hS hL hl hn hG hlen hp (fun ρ' hK h0 => ?_) (2 ^ G) 0 ρ (by omega) (fun a b _ => rfl) (fun s' hs' => absurd hs' (by omega))
  have s1' : ρ' 114 1 = .int (nI n) := (hK _ _ (by omega)).trans s1
  by_cases hn0 : n = 0
  · have h1 : nI n - nI 1 < nI 0 := by rw [hn0]; decide
    simp only [w41_0, w41_1, w41_2, w41_5, w41_6, w41_7, w41_8, w41_9, w41_10, w41_11, w41_14, w41_15, w41_18, w41_19, w41_22, w41_24, w41_25, w41_26, w41_27, w41_28, w41_31, w41_34, w41_37, w41_38, w41_41, w41_42, w41_43, w41_44, w41_45, w41_48, w41_49, w41_50, w41_51, w41_52, w41_55, w41_56, w41_57, w41_58, w41_59, w41_60, w41_63, w41_65, w41_66, w41_68, w41_70, w41_71, w41_74, w41_77, w41_79, w41_80, w41_81, w41_82, w41_84, w41_87, w41_90, w41_92, w41_95, w41_98, w41_99, w41_102, w41_103, w41_105, w41_106, w41_107, w41_108, w41_110, w41_113, w41_116, w41_119, w41_122, w41_125, ks_114, s1', h1, ↓reduceIte, Option.toList_some, Option.toList_none, List.cons_append, List.nil_append, true_and]
    refine ⟨hK, fun e' he' s hs => ?_⟩
    obtain rfl : e' = n := by omega
    rw [h0 s hs, Nat.sub_self]
    rfl
  · have h1 : nI n - nI 1 = nI (n - 1) := pk_sub (by omega)
    simp only [w41_0, w41_1, w41_2, w41_5, w41_6, w41_7, w41_8, w41_9, w41_10, w41_11, w41_14, w41_15, w41_18, w41_19, w41_22, w41_24, w41_25, w41_26, w41_27, w41_28, w41_31, w41_34, w41_37, w41_38, w41_41, w41_42, w41_43, w41_45, w41_48, w41_49, w41_50, w41_51, w41_52, w41_55, w41_56, w41_57, w41_58, w41_59, w41_60, w41_63, w41_65, w41_66, w41_68, w41_70, w41_71, w41_74, w41_77, w41_79, w41_80, w41_81, w41_82, w41_84, w41_87, w41_90, w41_92, w41_95, w41_98, w41_99, w41_102, w41_103, w41_105, w41_106, w41_107, w41_108, w41_110, w41_113, w41_116, w41_119, w41_122, w41_125, ks_114, s1', h1, ↓reduceIte, Option.toList_some, Option.toList_none, List.cons_append, List.nil_append]
    refine l_fwE hS hL hl hn hG hlen hp (fun ρ' v2 v3 v4 v5 hK h2 => ?_) (n - 1) ρ' none none none (by omega) hK (fun e' a b s hs => ?_)
    · simp only [w41_0, w41_1, w41_2, w41_5, w41_6, w41_7, w41_8, w41_9, w41_10, w41_11, w41_14, w41_15, w41_18, w41_19, w41_22, w41_24, w41_25, w41_26, w41_27, w41_28, w41_31, w41_34, w41_37, w41_38, w41_41, w41_42, w41_43, w41_44, w41_45, w41_48, w41_49, w41_50, w41_51, w41_52, w41_55, w41_56, w41_57, w41_58, w41_59, w41_60, w41_63, w41_65, w41_66, w41_68, w41_70, w41_71, w41_74, w41_77, w41_79, w41_80, w41_81, w41_82, w41_84, w41_87, w41_90, w41_92, w41_95, w41_98, w41_99, w41_102, w41_103, w41_105, w41_106, w41_107, w41_108, w41_110, w41_113, w41_116, w41_119, w41_122, w41_125, ↓reduceIte, Option.toList_some, Option.toList_none, List.cons_append, List.nil_append, true_and]
      exact ⟨hK, h2⟩
    · obtain rfl : e' = n := by omega
      rw [h0 s hs, Nat.sub_self]
      rfl
theorem c_clientsIn {w : Nat} (hw : w ≤ 60000) : Cq 40 [.int (nI w)] ρ Q = Q (some (.int (nI (clI w)))) ρ := by
  refine Cq_of (Er_of ?_)
  show Wq none 40 0 [some (.int (nI w))] [] ρ _
  unfold clI
  simp only [w40_0, w40_1, w40_4, w40_5, w40_6, w40_7, w40_10, w40_11, nI_add, pk_sub (show 1 ≤ w + 10000 by omega), (by decide : ¬ nI 10000 = 0), not_false_eq_true, show w + 10000 - 1 = w + 9999 by omega, pk_div (show w + 9999 < 2 ^ 31 by omega) (show 0 < 10000 by omega) (show 10000 < 2 ^ 31 by omega), ↓reduceIte, Option.toList_some, Option.toList_none, List.cons_append, List.nil_append, and_self]
end MX
