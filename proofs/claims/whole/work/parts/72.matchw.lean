/-! who leads whom: the reference's walk, both sides as calls -/
section MW
variable {σ : dm_G} {c n : Nat → Nat} {Q : Option Value → dm_G → Prop}
def Kont (N e : Nat) (v3 : Option Value) (Q : Option Value → dm_G → Prop) (ρ : dm_G) : Prop := if e = 0 then Q none ρ else Wq none 184 104 [some (.ref (118 : Nat)), some (.int (nI N)), some (.int (nI (e - 1))), v3] [] ρ Q
theorem l_back {N e : Nat} {v3 : Option Value} {ρ : dm_G} (hN : N ≤ 6) (he : e ≤ N) (h : Kont N e v3 Q ρ) : Wq none 184 88 [some (.ref (118 : Nat)), some (.int (nI N)), some (.int (nI e - nI 1)), v3] [] ρ Q := by
  unfold Kont at h
  cases e with
  | zero =>
    rw [if_pos rfl] at h
    rw [w184_88]
    simp only [w184_0, w184_1, w184_4, w184_5, w184_6, w184_7, w184_8, w184_9, w184_10, w184_11, w184_14, w184_15, w184_16, w184_17, w184_18, w184_21, w184_22, w184_23, w184_26, w184_27, w184_30, w184_32, w184_33, w184_34, w184_35, w184_36, w184_37, w184_40, w184_42, w184_43, w184_44, w184_47, w184_50, w184_52, w184_55, w184_56, w184_57, w184_58, w184_61, w184_62, w184_65, w184_68, w184_71, w184_74, w184_75, w184_76, w184_79, w184_80, w184_81, w184_82, w184_85, w184_86, w184_87, w184_89, w184_92, w184_93, w184_94, w184_97, w184_98, w184_101, w184_104, w184_105, w184_108, w184_109, w184_112, w184_113, w184_114, w184_117, w184_118, w184_121, (by decide : nI 0 - nI 1 < nI 0), ↓reduceIte, Option.toList_some, Option.toList_none, List.cons_append, List.nil_append]
    exact h
  | succ e =>
    rw [if_neg (by omega), Nat.add_sub_cancel] at h
    have h1 : nI (e + 1) - nI 1 = nI e := by rw [pk_sub (by omega), Nat.add_sub_cancel]
    have h2 : ¬ nI e < nI 0 := nI_pos (by omega)
    have h3 : ¬ nI e = nI N := fun q => by have := nI_inj (by omega) (by omega) q; omega
    rw [h1, w184_88]
    simp only [w184_0, w184_1, w184_4, w184_5, w184_6, w184_7, w184_8, w184_9, w184_10, w184_11, w184_14, w184_15, w184_16, w184_17, w184_18, w184_21, w184_22, w184_23, w184_26, w184_27, w184_30, w184_32, w184_33, w184_34, w184_35, w184_36, w184_37, w184_40, w184_42, w184_43, w184_44, w184_47, w184_50, w184_52, w184_55, w184_56, w184_57, w184_58, w184_61, w184_62, w184_65, w184_68, w184_71, w184_74, w184_75, w184_76, w184_79, w184_80, w184_81, w184_82, w184_85, w184_86, w184_87, w184_89, w184_92, w184_93, w184_94, w184_97, w184_98, w184_101, w184_105, w184_108, w184_109, w184_112, w184_113, w184_114, w184_117, w184_118, w184_121, h2, h3, ↓reduceIte, Option.toList_some, Option.toList_none, List.cons_append, List.nil_append]
    exact h
theorem l_after {N : Nat} {v3 : Option Value} {ρ : dm_G} (hN : N ≤ 6) (h : Kont N N v3 Q ρ) : Wq none 184 104 [some (.ref (118 : Nat)), some (.int (nI N)), some (.int (nI N + (-1))), v3] [] ρ Q := by
  unfold Kont at h
  cases N with
  | zero =>
    rw [if_pos rfl] at h
    simp only [w184_0, w184_1, w184_4, w184_5, w184_6, w184_7, w184_8, w184_9, w184_10, w184_11, w184_14, w184_15, w184_16, w184_17, w184_18, w184_21, w184_22, w184_23, w184_26, w184_27, w184_30, w184_32, w184_33, w184_34, w184_35, w184_36, w184_37, w184_40, w184_42, w184_43, w184_44, w184_47, w184_50, w184_52, w184_55, w184_56, w184_57, w184_58, w184_61, w184_62, w184_65, w184_68, w184_71, w184_74, w184_75, w184_76, w184_79, w184_80, w184_81, w184_82, w184_85, w184_86, w184_87, w184_88, w184_89, w184_92, w184_93, w184_94, w184_97, w184_98, w184_101, w184_104, w184_105, w184_108, w184_109, w184_112, w184_113, w184_114, w184_117, w184_118, w184_121, (by decide : ¬ nI 0 ≤ nI 0 + (-1)), (by decide : nI 0 + (-1) < nI 0), ↓reduceIte, Option.toList_some, Option.toList_none, List.cons_append, List.nil_append]
    exact h
  | succ e =>
    rw [if_neg (by omega), Nat.add_sub_cancel] at h
    rw [nI_dec]
    exact h
theorem okB_fold (hw : WC c) : ∀ (L : List (Nat → Nat)) (B : Option ((Nat × Nat × Nat) × (Nat → Nat))), okB B → okB (L.foldl (wgF (lenM c n) (prM c n) (c 2) (c 3)) B) := by
  intro L
  induction L with
  | nil => intro B h; exact h
  | cons r L ih => intro B h; exact ih _ (okB_w hw h)
def trP (σ : dm_G) (c n : Nat → Nat) (Q : Option Value → dm_G → Prop) (v3 : Option Value) (k : Nat) : Prop := ∀ (e : Nat) (r : Nat → Nat) (B : Option ((Nat × Nat × Nat) × (Nat → Nat))) (ρ : dm_G), e + k = c 3 → feR (lenM c n) (c 2) r e → rlS (lenM c n) (c 3) (c 2) σ ρ → (∀ j, j < e → gi ρ 131 j = nI (r j)) → rlB (c 3) B ρ → okB B → (0 < k → gi ρ 131 e = -1) → (∀ ρ', rlS (lenM c n) (c 3) (c 2) σ ρ' → (∀ j, j < e → gi ρ' 131 j = nI (r j)) → rlB (c 3) ((rwL (lenM c n) (c 2) k e r).foldl (wgF (lenM c n) (prM c n) (c 2) (c 3)) B) ρ' → Kont (c 3) e v3 Q ρ') → Wq none 184 88 [some (.ref (118 : Nat)), some (.int (nI (c 3))), some (.int (nI e)), v3] [] ρ Q
theorem l_trT {k e : Nat} {r : Nat → Nat} {v3 : Option Value} (hM : MR σ) (hc : MC σ c) (hn : MN σ n) (hw : WC c) (hwn : WN c n) (hP : trP σ c n Q v3 k) (hek : e + (k + 1) = c 3) (hfr : feR (lenM c n) (c 2) r e) : ∀ (M f t : Nat) (B : Option ((Nat × Nat × Nat) × (Nat → Nat))) (ρ : dm_G) (v : Int32), f ≤ M → t + f = c 2 + 1 → rlS (lenM c n) (c 3) (c 2) σ ρ → (∀ j, j < e → gi ρ 131 j = nI (r j)) → rlB (c 3) B ρ → okB B → gi ρ 131 e = v → v + nI 1 = nI t → (∀ ρ', rlS (lenM c n) (c 3) (c 2) σ ρ' → (∀ j, j < e → gi ρ' 131 j = nI (r j)) → rlB (c 3) ((rwT (mayB (lenM c n) (c 2) r e) (fun g => rwL (lenM c n) (c 2) k (e + 1) (up1 r e g)) f t).foldl (wgF (lenM c n) (prM c n) (c 2) (c 3)) B) ρ' → Kont (c 3) e v3 Q ρ') → Wq none 184 104 [some (.ref (118 : Nat)), some (.int (nI (c 3))), some (.int (nI e)), v3] [] ρ Q := by
  have w3 := hw.2.2.1
  intro M
  induction M with
  | zero =>
    intro f t B ρ v hf htf hS hr hB hk hv ht hq
    obtain rfl : f = 0 := by omega
    have h0 : nI 0 ≤ nI e := nI_pos' (by omega)
    obtain ⟨ρ1, e1, g1, g2⟩ := c_goes (r := r) (t := t) (f := 0) hM hc hw rfl rfl (lenM_8 (n := n) hw) hS (show e < c 3 by omega) (fun j hj => ⟨(hfr j hj).1, hr j hj⟩) hv ht htf
    have e1 : ∀ Q : Option Value → dm_G → Prop, Cq 185 [(.ref (118 : Nat)), .int (nI e)] ρ Q = Q (some (.int (nI e - nI 1))) ρ1 := e1
    simp only [w184_0, w184_1, w184_4, w184_5, w184_6, w184_7, w184_8, w184_9, w184_10, w184_11, w184_14, w184_15, w184_16, w184_17, w184_18, w184_21, w184_22, w184_23, w184_26, w184_27, w184_30, w184_32, w184_33, w184_34, w184_35, w184_36, w184_37, w184_40, w184_42, w184_43, w184_44, w184_47, w184_50, w184_52, w184_55, w184_56, w184_57, w184_58, w184_61, w184_62, w184_65, w184_68, w184_71, w184_74, w184_75, w184_76, w184_79, w184_80, w184_81, w184_82, w184_85, w184_86, w184_87, w184_89, w184_92, w184_93, w184_94, w184_97, w184_98, w184_101, w184_104, w184_105, w184_108, w184_109, w184_112, w184_113, w184_114, w184_117, w184_118, w184_121, ks_118, h0, e1, ↓reduceIte, Option.toList_some, Option.toList_none, List.cons_append, List.nil_append]
    refine l_back w3 (by omega) (hq ρ1 (rlS_of (fun a b z => g1 a b (by omega)) hS) (fun j hj => (gi_of (g1 _ _ (by omega))).trans (hr j hj)) (rlB_of (fun a b z => g1 a b (by omega)) hB))
  | succ M ih =>
    intro f t B ρ v hf htf hS hr hB hk hv ht hq
    have h0 : nI 0 ≤ nI e := nI_pos' (by omega)
    obtain ⟨ρ1, e1, g1, g2⟩ := c_goes (r := r) (t := t) (f := f) hM hc hw rfl rfl (lenM_8 (n := n) hw) hS (show e < c 3 by omega) (fun j hj => ⟨(hfr j hj).1, hr j hj⟩) hv ht htf
    have hS1 : rlS (lenM c n) (c 3) (c 2) σ ρ1 := rlS_of (fun a b z => g1 a b (by omega)) hS
    have hr1 : ∀ j, j < e → gi ρ1 131 j = nI (r j) := fun j hj => (gi_of (g1 _ _ (by omega))).trans (hr j hj)
    have hB1 : rlB (c 3) B ρ1 := rlB_of (fun a b z => g1 a b (by omega)) hB
    cases hfd : fnd (mayB (lenM c n) (c 2) r e) f t with
    | none =>
      rw [hfd] at e1
      rw [(rwT_f f t).1 hfd] at hq
      have e1 : ∀ Q : Option Value → dm_G → Prop, Cq 185 [(.ref (118 : Nat)), .int (nI e)] ρ Q = Q (some (.int (nI e - nI 1))) ρ1 := e1
      simp only [w184_0, w184_1, w184_4, w184_5, w184_6, w184_7, w184_8, w184_9, w184_10, w184_11, w184_14, w184_15, w184_16, w184_17, w184_18, w184_21, w184_22, w184_23, w184_26, w184_27, w184_30, w184_32, w184_33, w184_34, w184_35, w184_36, w184_37, w184_40, w184_42, w184_43, w184_44, w184_47, w184_50, w184_52, w184_55, w184_56, w184_57, w184_58, w184_61, w184_62, w184_65, w184_68, w184_71, w184_74, w184_75, w184_76, w184_79, w184_80, w184_81, w184_82, w184_85, w184_86, w184_87, w184_89, w184_92, w184_93, w184_94, w184_97, w184_98, w184_101, w184_104, w184_105, w184_108, w184_109, w184_112, w184_113, w184_114, w184_117, w184_118, w184_121, ks_118, h0, e1, ↓reduceIte, Option.toList_some, Option.toList_none, List.cons_append, List.nil_append]
      exact l_back w3 (by omega) (hq ρ1 hS1 hr1 hB1)
    | some g =>
      rw [hfd] at e1 g2
      obtain ⟨g3, g4⟩ := g2 g rfl
      obtain ⟨x1, x2, x3⟩ := fnd_some _ _ _ hfd
      rw [(rwT_f f t).2 g hfd, List.foldl_append] at hq
      have e1 : ∀ Q : Option Value → dm_G → Prop, Cq 185 [(.ref (118 : Nat)), .int (nI e)] ρ Q = Q (some (.int (nI (e + 1)))) ρ1 := e1
      simp only [w184_0, w184_1, w184_4, w184_5, w184_6, w184_7, w184_8, w184_9, w184_10, w184_11, w184_14, w184_15, w184_16, w184_17, w184_18, w184_21, w184_22, w184_23, w184_26, w184_27, w184_30, w184_32, w184_33, w184_34, w184_35, w184_36, w184_37, w184_40, w184_42, w184_43, w184_44, w184_47, w184_50, w184_52, w184_55, w184_56, w184_57, w184_58, w184_61, w184_62, w184_65, w184_68, w184_71, w184_74, w184_75, w184_76, w184_79, w184_80, w184_81, w184_82, w184_85, w184_86, w184_87, w184_89, w184_92, w184_93, w184_94, w184_97, w184_98, w184_101, w184_104, w184_105, w184_108, w184_109, w184_112, w184_113, w184_114, w184_117, w184_118, w184_121, ks_118, h0, e1, ↓reduceIte, Option.toList_some, Option.toList_none, List.cons_append, List.nil_append]
      refine hP (e + 1) (up1 r e g) B ρ1 (by omega) (feR_up hfr (by omega) x3) hS1 (fun j hj => ?_) hB1 hk (fun hk0 => g4 (by omega)) (fun ρ' hS' hr' hB' => ?_)
      · by_cases z : j = e
        · rw [z, up1_eq]; exact g3
        · rw [up1_ne z]; exact hr1 j (by omega)
      · unfold Kont
        rw [if_neg (by omega), Nat.add_sub_cancel]
        refine ih (f - (g - t) - 1) (g + 1) _ ρ' (nI g) (by omega) (by omega) hS' (fun j hj => ?_) hB' (okB_fold hw _ _ hk) ?_ (nI_add _ _) hq
        · rw [hr' j (by omega), up1_ne (by omega)]
        · rw [hr' e (by omega), up1_eq]
theorem l_tree {v3 : Option Value} (hM : MR σ) (hc : MC σ c) (hn : MN σ n) (hw : WC c) (hwn : WN c n) : ∀ k, trP σ c n Q v3 k := by
  have w3 := hw.2.2.1
  intro k
  induction k with
  | zero =>
    intro e r B ρ he hf hS hr hB hk _ hq
    obtain rfl : e = c 3 := by omega
    have h0 : ¬ nI (c 3) < nI 0 := nI_pos (by omega)
    obtain ⟨ρ1, e1, hB1, k1⟩ := c_weighs hM hc hn hw hwn hS hf hr hB hk
    rw [w184_88]
    simp only [w184_0, w184_1, w184_4, w184_5, w184_6, w184_7, w184_8, w184_9, w184_10, w184_11, w184_14, w184_15, w184_16, w184_17, w184_18, w184_21, w184_22, w184_23, w184_26, w184_27, w184_30, w184_32, w184_33, w184_34, w184_35, w184_36, w184_37, w184_40, w184_42, w184_43, w184_44, w184_47, w184_50, w184_52, w184_55, w184_56, w184_57, w184_58, w184_61, w184_62, w184_65, w184_68, w184_71, w184_74, w184_75, w184_76, w184_79, w184_80, w184_81, w184_82, w184_85, w184_86, w184_87, w184_89, w184_92, w184_93, w184_94, w184_97, w184_98, w184_101, w184_105, w184_108, w184_109, w184_112, w184_113, w184_114, w184_117, w184_118, w184_121, ks_118, h0, e1, ↓reduceIte, Option.toList_some, Option.toList_none, List.cons_append, List.nil_append]
    exact l_after w3 (hq ρ1 (rlS_of (fun a b z => k1 a b (by omega)) hS) (fun j hj => (gi_of (k1 _ _ (by omega))).trans (hr j hj)) hB1)
  | succ k ih =>
    intro e r B ρ he hf hS hr hB hk hm1 hq
    have h0 : ¬ nI e < nI 0 := nI_pos (by omega)
    have h3 : ¬ nI e = nI (c 3) := fun q => by have := nI_inj (by omega) (by omega) q; omega
    rw [w184_88]
    simp only [w184_0, w184_1, w184_4, w184_5, w184_6, w184_7, w184_8, w184_9, w184_10, w184_11, w184_14, w184_15, w184_16, w184_17, w184_18, w184_21, w184_22, w184_23, w184_26, w184_27, w184_30, w184_32, w184_33, w184_34, w184_35, w184_36, w184_37, w184_40, w184_42, w184_43, w184_44, w184_47, w184_50, w184_52, w184_55, w184_56, w184_57, w184_58, w184_61, w184_62, w184_65, w184_68, w184_71, w184_74, w184_75, w184_76, w184_79, w184_80, w184_81, w184_82, w184_85, w184_86, w184_87, w184_89, w184_92, w184_93, w184_94, w184_97, w184_98, w184_101, w184_105, w184_108, w184_109, w184_112, w184_113, w184_114, w184_117, w184_118, w184_121, h0, h3, ↓reduceIte, Option.toList_some, Option.toList_none, List.cons_append, List.nil_append]
    rw [rwLS] at hq
    exact l_trT hM hc hn hw hwn ih he hf (c 2 + 1) (c 2 + 1) 0 B ρ (-1) (Nat.le_refl _) (by omega) hS hr hB hk (hm1 (by omega)) (by decide) hq
-- the lengths
theorem ln_home {g e : Nat} (hb : (n 18).testBit e = true) : lnF (lenM c n) e g = 100000000 := by
  unfold lnF
  rw [show lenM c n e g = none from if_pos hb]
theorem ln_not {g e : Nat} (hw : WC c) (he : e < c 3) (hb : ¬ (n 18).testBit e = true) : lnF (lenM c n) e g = lay c (andn (n (6 + g)) (n 19)) (c (61 + e)) (c (55 + e)) := by
  obtain ⟨x1, x2⟩ := hw.2.2.2.2.2.2.2.1 e he
  rw [lay_sb hw x1 x2]
  unfold lnF
  rw [show lenM c n e g = sbN c (c (55 + e)) (c (61 + e)) (andn (n (6 + g)) (n 19)) from if_neg hb]
  cases sbN c (c (55 + e)) (c (61 + e)) (andn (n (6 + g)) (n 19)) <;> rfl
theorem l_lnG {e : Nat} {ρ0 : dm_G} (hM : MR σ) (hc : MC σ c) (hn : MN σ n) (hw : WC c) (hwn : WN c n) (he : e < c 3) (kk : ∀ ρ v3, (∀ a b, ¬ ((128 < a ∧ a < 133) ∨ (a = 118 ∧ 25 < b ∧ b < 29)) → ρ a b = σ a b) → (∀ e' g, e' < e + 1 → g < c 2 → gi ρ 130 (6 * e' + g) = nI (lnF (lenM c n) e' g)) → Wq none 184 68 [some (.ref (118 : Nat)), some (.int (nI (c 3))), some (.int (nI e)), v3] [] ρ Q) : ∀ (f g : Nat) (ρ : dm_G), g + f = c 2 → (∀ a b, ¬ ((128 < a ∧ a < 133) ∨ (a = 118 ∧ 25 < b ∧ b < 29)) → ρ a b = σ a b) → (∀ e' g', g' < c 2 → (e' < e ∨ (e' = e ∧ g' < g)) → gi ρ 130 (6 * e' + g') = nI (lnF (lenM c n) e' g')) → Wq none 184 16 [some (.ref (118 : Nat)), some (.int (nI (c 3))), some (.int (nI e)), some (.int (nI g))] [] ρ Q := by
  have w2 := hw.2.1
  have w3 := hw.2.2.1
  have h18 := hwn.2.1
  have p6 : 2 ^ c 3 ≤ 2 ^ 6 := Nat.pow_le_pow_right (by decide) w3
  have p8 : 2 ^ c 0 ≤ 2 ^ 8 := Nat.pow_le_pow_right (by decide) hw.1
  intro f
  induction f with
  | zero =>
    intro g ρ hg hk h1
    obtain rfl : g = c 2 := by omega
    have hM' : MR ρ := MR_k (fun a b z => hk a b (by omega)) hM
    have hc' : MC ρ c := MC_k (fun a b z => hk a b (by omega)) hc
    rw [w184_16]
    simp only [w184_0, w184_1, w184_4, w184_5, w184_6, w184_7, w184_8, w184_9, w184_10, w184_11, w184_14, w184_15, w184_17, w184_18, w184_21, w184_22, w184_23, w184_26, w184_27, w184_30, w184_32, w184_33, w184_34, w184_35, w184_36, w184_37, w184_40, w184_42, w184_43, w184_44, w184_47, w184_50, w184_52, w184_55, w184_56, w184_57, w184_58, w184_61, w184_62, w184_65, w184_71, w184_74, w184_75, w184_76, w184_79, w184_80, w184_81, w184_82, w184_85, w184_86, w184_87, w184_88, w184_89, w184_92, w184_93, w184_94, w184_97, w184_98, w184_101, w184_104, w184_105, w184_108, w184_109, w184_112, w184_113, w184_114, w184_117, w184_118, w184_121, ks_118, hM'.1, kt_119, in_nI (show 2 < kl 119 by rw [kl_119]; omega) (by rw [kl_119]; omega), nI_clamp (show 2 < 2 ^ 31 by omega), hc' 2 (by omega), nI_le (Nat.le_refl (c 2)) (show c 2 < 2 ^ 31 by omega), ↓reduceIte, Option.toList_some, Option.toList_none, List.cons_append, List.nil_append]
    exact kk ρ _ hk (fun e' g' he' hg' => h1 e' g' hg' (by omega))
  | succ f ih =>
    intro g ρ hg hk h1
    have hM' : MR ρ := MR_k (fun a b z => hk a b (by omega)) hM
    have hc' : MC ρ c := MC_k (fun a b z => hk a b (by omega)) hc
    have hn' : MN ρ n := MN_k (fun a b z => hk a b (by omega)) hn
    obtain ⟨m0, m1, m2, m3, m5, m6, m8, m11, m12, m14, m22, m23, m24, m25, m29, m30, m31, m32⟩ := id hM'
    have h2 : ¬ nI (c 2) ≤ nI g := nI_ge (by omega) (by omega)
    have g31 : n (6 + g) < 2 ^ 31 := by have := (hwn.1 g (by omega)).2.1; omega
    rw [w184_16]
    by_cases hb : (n 18).testBit e = true
    · have hl := ln_home (c := c) (n := n) (g := g) hb
      simp only [w184_0, w184_1, w184_4, w184_5, w184_6, w184_7, w184_8, w184_9, w184_10, w184_11, w184_14, w184_15, w184_17, w184_18, w184_21, w184_22, w184_23, w184_26, w184_27, w184_30, w184_32, w184_33, w184_34, w184_35, w184_36, w184_37, w184_40, w184_42, w184_43, w184_44, w184_47, w184_50, w184_52, w184_55, w184_56, w184_57, w184_58, w184_61, w184_62, w184_65, w184_71, w184_74, w184_75, w184_76, w184_79, w184_80, w184_81, w184_82, w184_85, w184_86, w184_87, w184_88, w184_89, w184_92, w184_93, w184_94, w184_97, w184_98, w184_101, w184_104, w184_105, w184_108, w184_109, w184_112, w184_113, w184_114, w184_117, w184_118, w184_121, ks_118, m0, m2, m23, kt_119, kt_121, kt_130, in_nI (show 2 < kl 119 by rw [kl_119]; omega) (by rw [kl_119]; omega), nI_clamp (show 2 < 2 ^ 31 by omega), hc' 2 (by omega), h2, in_nI (show 18 < kl 121 by rw [kl_121]; omega) (by rw [kl_121]; omega), nI_clamp (show 18 < 2 ^ 31 by omega), hn' 18 (by omega), c_has (show n 18 < 2 ^ 31 by omega) (show e < 32 by omega), hb, nI_ne1, pk_mul, nI_add, in_nI (show 6 * e + g < kl 130 by rw [kl_130]; omega) (by rw [kl_130]; omega), nI_clamp (show 6 * e + g < 2 ^ 31 by omega), ↓reduceIte, Option.toList_some, Option.toList_none, List.cons_append, List.nil_append]
      refine ih (g + 1) _ (by omega) (fun a b z => by rw [up_get, if_neg (by omega), hk a b z]) (fun e' g' hg' z => ?_)
      rw [gi_up]
      by_cases y : e' = e ∧ g' = g
      · rw [if_pos (by omega), y.1, y.2, hl]
      · rw [if_neg (by omega)]
        exact h1 e' g' hg' (by omega)
    · have hl := ln_not (n := n) (g := g) hw he hb
      simp only [w184_0, w184_1, w184_4, w184_5, w184_6, w184_7, w184_8, w184_9, w184_10, w184_11, w184_14, w184_15, w184_17, w184_18, w184_21, w184_22, w184_23, w184_26, w184_27, w184_30, w184_32, w184_33, w184_34, w184_35, w184_36, w184_37, w184_40, w184_42, w184_43, w184_44, w184_47, w184_50, w184_52, w184_55, w184_56, w184_57, w184_58, w184_61, w184_62, w184_65, w184_71, w184_74, w184_75, w184_76, w184_79, w184_80, w184_81, w184_82, w184_85, w184_86, w184_87, w184_88, w184_89, w184_92, w184_93, w184_94, w184_97, w184_98, w184_101, w184_104, w184_105, w184_108, w184_109, w184_112, w184_113, w184_114, w184_117, w184_118, w184_121, ks_118, m0, m2, m23, kt_119, kt_121, kt_130, in_nI (show 2 < kl 119 by rw [kl_119]; omega) (by rw [kl_119]; omega), nI_clamp (show 2 < 2 ^ 31 by omega), hc' 2 (by omega), h2, in_nI (show 18 < kl 121 by rw [kl_121]; omega) (by rw [kl_121]; omega), nI_clamp (show 18 < 2 ^ 31 by omega), hn' 18 (by omega), c_has (show n 18 < 2 ^ 31 by omega) (show e < 32 by omega), hb, c_streets hM' hc' hn' hw (show g < c 2 by omega) he g31, pk_mul, nI_add, in_nI (show 6 * e + g < kl 130 by rw [kl_130]; omega) (by rw [kl_130]; omega), nI_clamp (show 6 * e + g < 2 ^ 31 by omega), ↓reduceIte, Option.toList_some, Option.toList_none, List.cons_append, List.nil_append, Bool.false_eq_true]
      refine ih (g + 1) _ (by omega) (fun a b z => by rw [up_get, if_neg (by omega), aset_cell (by omega), hk a b z]) (fun e' g' hg' z => ?_)
      rw [gi_up]
      by_cases y : e' = e ∧ g' = g
      · rw [if_pos (by omega), y.1, y.2, hl]
      · rw [if_neg (by omega), gi_of (σ := ρ) (by rw [aset_cell (by omega)])]
        exact h1 e' g' hg' (by omega)
theorem l_lnE (hM : MR σ) (hc : MC σ c) (hn : MN σ n) (hw : WC c) (hwn : WN c n) (kk : ∀ ρ v3, rlS (lenM c n) (c 3) (c 2) σ ρ → Wq none 184 74 [some (.ref (118 : Nat)), some (.int (nI (c 3))), some (.int (nI (c 3))), v3] [] ρ Q) : ∀ (f e : Nat) (ρ : dm_G) (v3 : Option Value), e + f = c 3 → (∀ a b, ¬ ((128 < a ∧ a < 133) ∨ (a = 118 ∧ 25 < b ∧ b < 29)) → ρ a b = σ a b) → (∀ e' g, e' < e → g < c 2 → gi ρ 130 (6 * e' + g) = nI (lnF (lenM c n) e' g)) → Wq none 184 9 [some (.ref (118 : Nat)), some (.int (nI (c 3))), some (.int (nI e)), v3] [] ρ Q := by
  have w3 := hw.2.2.1
  intro f
  induction f with
  | zero =>
    intro e ρ v3 he hk h1
    obtain rfl : e = c 3 := by omega
    rw [w184_9]
    simp only [w184_0, w184_1, w184_4, w184_5, w184_6, w184_7, w184_8, w184_10, w184_11, w184_14, w184_15, w184_16, w184_17, w184_18, w184_21, w184_22, w184_23, w184_26, w184_27, w184_30, w184_32, w184_33, w184_34, w184_35, w184_36, w184_37, w184_40, w184_42, w184_43, w184_44, w184_47, w184_50, w184_52, w184_55, w184_56, w184_57, w184_58, w184_61, w184_62, w184_65, w184_68, w184_71, w184_75, w184_76, w184_79, w184_80, w184_81, w184_82, w184_85, w184_86, w184_87, w184_88, w184_89, w184_92, w184_93, w184_94, w184_97, w184_98, w184_101, w184_104, w184_105, w184_108, w184_109, w184_112, w184_113, w184_114, w184_117, w184_118, w184_121, nI_le (Nat.le_refl (c 3)) (show c 3 < 2 ^ 31 by omega), ↓reduceIte, Option.toList_some, Option.toList_none, List.cons_append, List.nil_append]
    exact kk ρ v3 ⟨hk, h1⟩
  | succ f ih =>
    intro e ρ v3 he hk h1
    have h2 : ¬ nI (c 3) ≤ nI e := nI_ge (by omega) (by omega)
    rw [w184_9]
    simp only [w184_0, w184_1, w184_4, w184_5, w184_6, w184_7, w184_8, w184_10, w184_11, w184_14, w184_15, w184_17, w184_18, w184_21, w184_22, w184_23, w184_26, w184_27, w184_30, w184_32, w184_33, w184_34, w184_35, w184_36, w184_37, w184_40, w184_42, w184_43, w184_44, w184_47, w184_50, w184_52, w184_55, w184_56, w184_57, w184_58, w184_61, w184_62, w184_65, w184_68, w184_71, w184_75, w184_76, w184_79, w184_80, w184_81, w184_82, w184_85, w184_86, w184_87, w184_88, w184_89, w184_92, w184_93, w184_94, w184_97, w184_98, w184_101, w184_104, w184_105, w184_108, w184_109, w184_112, w184_113, w184_114, w184_117, w184_118, w184_121, h2, ↓reduceIte, Option.toList_some, Option.toList_none, List.cons_append, List.nil_append]
    refine l_lnG (ρ0 := ρ) hM hc hn hw hwn (show e < c 3 by omega) (fun ρ v3 hk h1 => ?_) (c 2) 0 ρ (by omega) hk (fun e' g' hg' z => h1 e' g' (by omega) hg')
    simp only [w184_0, w184_1, w184_4, w184_5, w184_6, w184_7, w184_8, w184_10, w184_11, w184_14, w184_15, w184_16, w184_17, w184_18, w184_21, w184_22, w184_23, w184_26, w184_27, w184_30, w184_32, w184_33, w184_34, w184_35, w184_36, w184_37, w184_40, w184_42, w184_43, w184_44, w184_47, w184_50, w184_52, w184_55, w184_56, w184_57, w184_58, w184_61, w184_62, w184_65, w184_68, w184_71, w184_75, w184_76, w184_79, w184_80, w184_81, w184_82, w184_85, w184_86, w184_87, w184_88, w184_89, w184_92, w184_93, w184_94, w184_97, w184_98, w184_101, w184_104, w184_105, w184_108, w184_109, w184_112, w184_113, w184_114, w184_117, w184_118, w184_121, nI_add, ↓reduceIte, Option.toList_some, Option.toList_none, List.cons_append, List.nil_append]
    exact ih (e + 1) ρ v3 (by omega) hk h1
theorem c_matches (hM : MR σ) (hc : MC σ c) (hn : MN σ n) (hw : WC c) (hwn : WN c n) : ∃ ρ, (∀ Q : Option Value → dm_G → Prop, Cq 184 [(.ref (118 : Nat))] σ Q = Q none ρ) ∧ (∀ a b, ¬ ((128 < a ∧ a < 133) ∨ (a = 118 ∧ 25 < b ∧ b < 29)) → ρ a b = σ a b) ∧ ∃ ro, rlB (c 3) (some ((mostN (lenM c n) (prM c n) (c 2) (c 3), longN (lenM c n) (prM c n) (c 2) (c 3), costN (lenM c n) (prM c n) (c 2) (c 3)), ro)) ρ ∧ ∀ j, j < c 3 → ro j = gRw (lenM c n) (prM c n) (c 2) (longN (lenM c n) (prM c n) (c 2) (c 3)) (c 3) j := by
  have w3 := hw.2.2.1
  obtain ⟨ro, hro, hro2⟩ := best_row (G := c 2) (prM_p (n := n) hw) (lenM_8 (n := n) hw) w3 (fun _ => 0)
  obtain ⟨m0, m1, m2, m3, m5, m6, m8, m11, m12, m14, m22, m23, m24, m25, m29, m30, m31, m32⟩ := id hM
  refine ex_of (Er_ex ?_)
  show Wq none 184 0 [some (.ref (118 : Nat)), none, none, none] [] σ _
  simp only [w184_0, w184_1, w184_4, w184_5, w184_6, w184_7, w184_8, w184_10, w184_11, w184_14, w184_15, w184_16, w184_17, w184_18, w184_21, w184_22, w184_23, w184_26, w184_27, w184_30, w184_32, w184_33, w184_34, w184_35, w184_36, w184_37, w184_40, w184_42, w184_43, w184_44, w184_47, w184_50, w184_52, w184_55, w184_56, w184_57, w184_58, w184_61, w184_62, w184_65, w184_68, w184_71, w184_74, w184_75, w184_76, w184_79, w184_80, w184_81, w184_82, w184_85, w184_86, w184_87, w184_88, w184_89, w184_92, w184_93, w184_94, w184_97, w184_98, w184_101, w184_104, w184_105, w184_108, w184_109, w184_112, w184_113, w184_114, w184_117, w184_118, w184_121, ks_118, m0, kt_119, in_nI (show 3 < kl 119 by rw [kl_119]; omega) (by rw [kl_119]; omega), nI_clamp (show 3 < 2 ^ 31 by omega), hc 3 (by omega), ↓reduceIte, Option.toList_some, Option.toList_none, List.cons_append, List.nil_append]
  refine l_lnE hM hc hn hw hwn (fun ρ v3 hS => ?_) (c 3) 0 σ none (by omega) (fun a b _ => rfl) (fun e' g h => absurd h (by omega))
  have hM' := rlS_M hM hS
  obtain ⟨q0, q1, q2, q3, q5, q6, q8, q11, q12, q14, q22, q23, q24, q25, q29, q30, q31, q32⟩ := id hM'
  let ρ1 : dm_G := dm_up ρ 118 26 (.int (-1))
  let ρ2 : dm_G := dm_up ρ1 131 0 (.int (-1))
  have x1 : ρ1 118 24 = (.ref (131 : Nat)) := q24
  simp only [w184_0, w184_1, w184_4, w184_5, w184_6, w184_7, w184_8, w184_9, w184_10, w184_11, w184_14, w184_15, w184_16, w184_17, w184_18, w184_21, w184_22, w184_23, w184_26, w184_27, w184_30, w184_32, w184_33, w184_34, w184_35, w184_36, w184_37, w184_40, w184_42, w184_43, w184_44, w184_47, w184_50, w184_52, w184_55, w184_56, w184_57, w184_58, w184_61, w184_62, w184_65, w184_68, w184_71, w184_74, w184_75, w184_76, w184_80, w184_81, w184_82, w184_85, w184_86, w184_87, w184_88, w184_89, w184_92, w184_93, w184_94, w184_97, w184_98, w184_101, w184_104, w184_105, w184_108, w184_109, w184_112, w184_113, w184_114, w184_117, w184_118, w184_121, ks_118, ↓reduceIte, Option.toList_some, Option.toList_none, List.cons_append, List.nil_append]
  show Wq none 184 79 [some (.ref (118 : Nat)), some (.int (nI (c 3))), some (.int (nI (c 3))), v3] [] ρ1 _
  simp only [w184_0, w184_1, w184_4, w184_5, w184_6, w184_7, w184_8, w184_9, w184_10, w184_11, w184_14, w184_15, w184_16, w184_17, w184_18, w184_21, w184_22, w184_23, w184_26, w184_27, w184_30, w184_32, w184_33, w184_34, w184_35, w184_36, w184_37, w184_40, w184_42, w184_43, w184_44, w184_47, w184_50, w184_52, w184_55, w184_56, w184_57, w184_58, w184_61, w184_62, w184_65, w184_68, w184_71, w184_74, w184_75, w184_76, w184_79, w184_80, w184_81, w184_82, w184_85, w184_86, w184_87, w184_89, w184_92, w184_93, w184_94, w184_97, w184_98, w184_101, w184_104, w184_105, w184_108, w184_109, w184_112, w184_113, w184_114, w184_117, w184_118, w184_121, ks_118, x1, kt_131, in_nI (show 0 < kl 131 by rw [kl_131]; omega) (by rw [kl_131]; omega), nI_clamp (show 0 < 2 ^ 31 by omega), ↓reduceIte, Option.toList_some, Option.toList_none, List.cons_append, List.nil_append]
  show Wq none 184 88 [some (.ref (118 : Nat)), some (.int (nI (c 3))), some (.int (nI 0)), v3] [] ρ2 _
  have kS : ∀ a b, ¬ ((130 < a ∧ a < 133) ∨ (a = 118 ∧ 25 < b ∧ b < 29)) → ρ2 a b = ρ a b := fun a b z => by
    show dm_up (dm_up ρ 118 26 _) 131 0 _ a b = _
    rw [up_get, if_neg (by omega), up_get, if_neg (by omega)]
  refine l_tree (v3 := v3) hM hc hn hw hwn (c 3) 0 (fun _ => 0) none ρ2 (by omega) (fun e he => absurd he (by omega)) (rlS_of kS hS) (fun j hj => absurd hj (by omega)) rfl (fun b hb => by cases hb) (fun _ => ?_) (fun ρ' hS' hr' hB' => ?_)
  · show gi (dm_up (dm_up ρ 118 26 _) 131 0 _) 131 0 = _
    rw [gi_up, if_pos ⟨rfl, rfl⟩]
  · unfold Kont
    rw [if_pos rfl]
    rw [hro] at hB'
    exact ⟨rfl, hS'.1, ro, hB', hro2⟩
end MW
