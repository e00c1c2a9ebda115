/-! ring, all go by, pose, clouds -/
theorem pr_ex {yC yM : Nat} {as : List Value} {σ : dm_G} (h : Cq yC (.ref (0 : Nat) :: as) σ (fun r σ1 => ∃ v : Int32, r = some (.int v) ∧ Cq yM (.ref (118 : Nat) :: as) σ1 (fun r2 σ2 => r2 = some (.int v) ∧ Inv σ2))) : Pr Inv yC yM as σ := by
  obtain ⟨r, σ1, e1, v, rfl, r2, σ2, e2, rfl, hI⟩ := h
  exact ⟨v, σ1, σ2, e1, e2, hI⟩
theorem bt_leF (c aw : Nat → Nat) (o x k : Nat) : btN c aw o x k ≤ FAR := by
  unfold btN
  split
  · omega
  · exact Nat.le_refl _
theorem lay_fs {c : Nat → Nat} {o a b d : Nat} (hw : WC c) (ha : a < c 0) (hb : b < c 0) (hs : sbN c a b o = some d) : lay c o b a = d ∧ nI d < nI 100000000 ∧ ¬ nI 100000000 ≤ nI d := by
  have hl := lay_sb (o := o) hw ha hb
  rw [hs] at hl
  have hd := sbN_lt hs
  have h8 := hw.1
  refine ⟨hl, (far_lt (by omega)).mpr (by unfold FAR; omega), fun q => ?_⟩
  have := (far_le (by omega)).mp q
  unfold FAR at this
  omega
theorem lay_fn {c : Nat → Nat} {o a b : Nat} (hw : WC c) (ha : a < c 0) (hb : b < c 0) (hs : sbN c a b o = none) : lay c o b a = 100000000 := by
  have hl := lay_sb (o := o) hw ha hb
  rw [hs] at hl
  exact hl
section RG
variable {σ : dm_G} {c n : Nat → Nat} {P D : Nat} {Q : Option Value → dm_G → Prop}
theorem MR_a {aw : Nat → Nat} (hM : MR σ) : MR (aset σ aw) := MR_of (aset_cell (by omega)) hM
theorem MC_a {aw : Nat → Nat} (hc : MC σ c) : MC (aset σ aw) c := MC_of (aset_cell (by omega)) hc
theorem MN_a {aw : Nat → Nat} (hn : MN σ n) : MN (aset σ aw) n := MN_of (aset_cell (by omega)) hn
theorem c_lengthA {o a e : Nat} {aw : Nat → Nat} (hM : MR σ) (hc : MC σ c) (hw : WC c) (ho : o < 2 ^ 31) (he : e < 2 ^ 31) (ha : a < 8) : Cq 153 [(.ref (118 : Nat)), .int (nI o), .int (nI a), .int (nI e)] (aset σ aw) Q = Q (some (.int (nI (lay c o e a)))) (aset σ (lay c o e)) := by
  rw [c_length (MR_a hM) (MC_a hc) hw ho he ha, aset_aset]
theorem pr_ring (x : Int32) (hI : Inv σ) : Pr Inv 105 192 [.int x] σ := by
  obtain ⟨c, n, k, p, q, im, h, hs, ht, m, bg, bx, L, tx, f, s, hWA, hCA, hMA⟩ := id hI; obtain ⟨hw, hwn, ⟨hk16, hkp⟩, ⟨hq4, hqi⟩, ⟨hh9, hhs, hht⟩, ⟨hm15, hmb⟩, ⟨hL240, htx⟩, hs31⟩ := id hWA; obtain ⟨⟨P, D, hPD, hB, hC, hD⟩, hN, hPa, hIm, hHe, hBk, hTx, hF, hS, hSc⟩ := id hCA; obtain ⟨hM, hc, hn, hmP, hmI, hmH, hmB, hmT, hmF, hmS⟩ := id hMA
  obtain ⟨b0, b3, b4, b5, b6, b7, b8, b9, b10, b11, b12⟩ := id hB
  obtain ⟨w0, w2, w3, w4, w5, w6, w7, w8, w9⟩ := id hw
  obtain ⟨m0, m1, m2, m3, m5, m6, m8, m11, m12, m14, m22, m23, m24, m25, m29, m30, m31, m32⟩ := id hM
  obtain ⟨⟨kP, ⟨t1, l1⟩, ⟨t2, l2⟩, ⟨t3, l3⟩, ⟨t4, l4⟩, ⟨t5, l5⟩, ⟨t6, l6⟩, ⟨t7, l7⟩, ⟨t8, l8⟩, ⟨t9, l9⟩⟩, ⟨r1, r2, r3, r4, r5, r6, r7, r8, r9⟩, ⟨i0, i2, i3, i4⟩, f1, f2, f3, f4, f5, f6, f7⟩ := id hC
  obtain ⟨⟨kS, ⟨u1, v1⟩, ⟨u2, v2⟩, ⟨u3, v3⟩⟩, ⟨q0, q1, q2⟩, ⟨j3, j4, j5, j6⟩, jf⟩ := id hN
  rcases ix_cs x (show c 2 < 2 ^ 31 by omega) with ⟨g, hg, rfl⟩ | ⟨hx, hx2⟩
  · have ho := andn_lt31 hw hwn hg
    obtain ⟨g1, g2, g3⟩ := hwn.1 g hg
    have hrg := rg_eq (o := andn (n (6 + g)) (n 19)) hw g1
    have hlb := lay_le c (andn (n (6 + g)) (n 19)) (n g)
    have q0' : nI 0 + nI g = nI g := by rw [nI_add, Nat.zero_add]
    have t0 := FAR_31 (bt_leF c (lay c (andn (n (6 + g)) (n 19)) (n g)) (andn (n (6 + g)) (n 19)) (n g) 0)
    have t1' := FAR_31 (bt_leF c (lay c (andn (n (6 + g)) (n 19)) (n g)) (andn (n (6 + g)) (n 19)) (n g) 1)
    have t2' := FAR_31 (bt_leF c (lay c (andn (n (6 + g)) (n 19)) (n g)) (andn (n (6 + g)) (n 19)) (n g) 2)
    have hM2 := MR_a (aw := lay c (andn (n (6 + g)) (n 19)) (n g)) hM
    have hn2 := MN_a (aw := lay c (andn (n (6 + g)) (n 19)) (n g)) hn
    have m22 : aset σ (lay c (andn (n (6 + g)) (n 19)) (n g)) 118 2 = (.ref (121 : Nat)) := hM2.2.2.1
    have hF : rgM c (andn (n (6 + g)) (n 19)) (n g) ≤ FAR := by
      unfold rgM
      omega
    have eF : min (min (min 100000000 (btN c (lay c (andn (n (6 + g)) (n 19)) (n g)) (andn (n (6 + g)) (n 19)) (n g) 0)) (btN c (lay c (andn (n (6 + g)) (n 19)) (n g)) (andn (n (6 + g)) (n 19)) (n g) 1)) (btN c (lay c (andn (n (6 + g)) (n 19)) (n g)) (andn (n (6 + g)) (n 19)) (n g) 2) = rgM c (andn (n (6 + g)) (n 19)) (n g) := rfl
    have cm : ∀ (Q : Option Value → dm_G → Prop), Cq 192 [(.ref (118 : Nat)), .int (nI g)] σ Q = Q (some (.int (oI (rgN c (n g) (andn (n (6 + g)) (n 19)))))) (aset σ (lay c (andn (n (6 + g)) (n 19)) (n g))) := by
      intro Q
      refine Cq_of (Er_of ?_)
      show Wq none 192 0 [some (.ref (118 : Nat)), some (.int (nI g)), none, none] [] σ _
      have hbt : ∀ (k : Nat) (Q : Option Value → dm_G → Prop), k < 3 → Cq 151 [(.ref (118 : Nat)), .int (nI (andn (n (6 + g)) (n 19))), .int (nI (n g)), .int (nI k)] (aset σ (lay c (andn (n (6 + g)) (n 19)) (n g))) Q = Q (some (.int (nI (btN c (lay c (andn (n (6 + g)) (n 19)) (n g)) (andn (n (6 + g)) (n 19)) (n g) k)))) (aset σ (lay c (andn (n (6 + g)) (n 19)) (n g))) := fun k Q hk => c_byTurn hM hc hw ho g1 hk hlb
      simp only [w192_0, w192_1, w192_2, w192_5, w192_8, w192_10, w192_11, w192_12, w192_13, w192_14, w192_17, w192_18, w192_21, w192_22, w192_23, w192_24, w192_25, w192_28, w192_30, w192_31, w192_32, w192_33, w192_34, w192_35, w192_38, w192_39, w192_40, w192_41, w192_42, w192_45, w192_46, w192_49, w192_50, w192_51, w192_52, w192_53, w192_54, w192_57, w192_60, w192_61, w192_64, w192_68, w192_70, w192_73, w192_74, w192_77, w192_78, ks_118, c_isGuide (x := nI g) hM hc hw ⟨g, hg, rfl⟩, nI_ne1, c_open hM hn (show g < 6 by omega), m2, m22, kt_121, q0', in_nI (show g < kl 121 by rw [kl_121]; omega) (by rw [kl_121]; omega), nI_clamp (show g < 2 ^ 31 by omega), hn g (by omega), hn2 g (by omega), c_layAway hM hc hw ho (show n g < 2 ^ 31 by omega), c_open hM2 hn2 (show g < 6 by omega), (by decide : ¬ nI 3 ≤ nI 0), (by decide : ¬ nI 3 ≤ nI 1), (by decide : ¬ nI 3 ≤ nI 2), (by decide : nI 3 ≤ nI 3), nI_add, Nat.reduceAdd, hbt 0 _ (by omega), hbt 1 _ (by omega), hbt 2 _ (by omega), c_lesser (show 100000000 < 2 ^ 31 by omega) t0, c_lesser (show min 100000000 (btN c (lay c (andn (n (6 + g)) (n 19)) (n g)) (andn (n (6 + g)) (n 19)) (n g) 0) < 2 ^ 31 by omega) t1', c_lesser (show min (min 100000000 (btN c (lay c (andn (n (6 + g)) (n 19)) (n g)) (andn (n (6 + g)) (n 19)) (n g) 0)) (btN c (lay c (andn (n (6 + g)) (n 19)) (n g)) (andn (n (6 + g)) (n 19)) (n g) 1) < 2 ^ 31 by omega) t2', eF, ↓reduceIte, Option.toList_some, Option.toList_none, List.cons_append, List.nil_append]
      cases hs : rgN c (n g) (andn (n (6 + g)) (n 19)) with
      | none =>
        rw [hs] at hrg
        have hrg : rgM c (andn (n (6 + g)) (n 19)) (n g) = 100000000 := hrg
        simp only [w192_0, w192_1, w192_2, w192_5, w192_8, w192_10, w192_11, w192_12, w192_13, w192_14, w192_17, w192_18, w192_21, w192_22, w192_23, w192_24, w192_25, w192_28, w192_30, w192_31, w192_32, w192_33, w192_34, w192_35, w192_38, w192_39, w192_40, w192_41, w192_42, w192_45, w192_46, w192_49, w192_50, w192_51, w192_52, w192_53, w192_54, w192_57, w192_60, w192_61, w192_64, w192_67, w192_68, w192_70, w192_73, w192_74, w192_77, w192_78, hrg, (by decide : ¬ nI 100000000 < nI 100000000), oI, ↓reduceIte, Option.toList_some, Option.toList_none, List.cons_append, List.nil_append, and_self]
      | some d =>
        rw [hs] at hrg
        have hrg : rgM c (andn (n (6 + g)) (n 19)) (n g) = d := hrg
        have hd : d < 1 + c 0 := (fnd_some _ _ _ hs).2.1
        have hf : nI d < nI 100000000 := (far_lt (by omega)).mpr (by unfold FAR; omega)
        simp only [w192_0, w192_1, w192_2, w192_5, w192_8, w192_10, w192_11, w192_12, w192_13, w192_14, w192_17, w192_18, w192_21, w192_22, w192_23, w192_24, w192_25, w192_28, w192_30, w192_31, w192_32, w192_33, w192_34, w192_35, w192_38, w192_39, w192_40, w192_41, w192_42, w192_45, w192_46, w192_49, w192_50, w192_51, w192_52, w192_53, w192_54, w192_57, w192_60, w192_61, w192_64, w192_67, w192_68, w192_70, w192_73, w192_74, w192_77, w192_78, hrg, hf, oI, ↓reduceIte, Option.toList_some, Option.toList_none, List.cons_append, List.nil_append, and_self]
    refine pr_of (fun Q => Cq_of (Er_of ?_)) cm (inv_aset hI)
    show Wq none 105 0 [some (.ref (0 : Nat)), some (.int (nI g))] [] σ _
    simp only [w105_0, w105_1, w105_4, w105_5, w105_8, w105_11, w105_13, w105_14, w105_15, w105_18, w105_19, w105_22, w105_25, w105_26, w105_29, w105_30, w105_33, w105_34, w105_37, w105_40, ks_0, ks_24, kP, b4, b6, q0, c_hasGuide hC hg hw, nI_ne1, c_at u1 (show g < kl (24 + 1) by rw [v1]; omega) (by rw [v1]; omega), (jf g hg).1, c_openTo hN w2 hg, c_backTo hC hw g1, ↓reduceIte, Option.toList_some, Option.toList_none, List.cons_append, List.nil_append, and_self]
  · refine pr_of (v := -1000000001) (σ1 := σ) (σ2 := σ) (fun Q => Cq_of (Er_of ?_)) (fun Q => Cq_of (Er_of ?_)) hI
    · show Wq none 105 0 [some (.ref (0 : Nat)), some (.int x)] [] σ _
      simp only [w105_0, w105_1, w105_4, w105_5, w105_8, w105_11, w105_13, w105_14, w105_15, w105_18, w105_19, w105_22, w105_25, w105_26, w105_29, w105_30, w105_33, w105_34, w105_37, w105_40, ks_0, kP, b4, c_hasGuide_f hC hx, ↓reduceIte, Option.toList_some, Option.toList_none, List.cons_append, List.nil_append, and_self]
    · show Wq none 192 0 [some (.ref (118 : Nat)), some (.int x), none, none] [] σ _
      simp only [w192_0, w192_1, w192_2, w192_5, w192_8, w192_10, w192_11, w192_12, w192_13, w192_14, w192_17, w192_18, w192_21, w192_22, w192_23, w192_24, w192_25, w192_28, w192_30, w192_31, w192_32, w192_33, w192_34, w192_35, w192_38, w192_39, w192_40, w192_41, w192_42, w192_45, w192_46, w192_49, w192_50, w192_51, w192_52, w192_53, w192_54, w192_57, w192_60, w192_61, w192_64, w192_67, w192_68, w192_70, w192_73, w192_74, w192_77, w192_78, ks_118, c_isGuide_f hM hc hw hx2, ↓reduceIte, Option.toList_some, Option.toList_none, List.cons_append, List.nil_append, and_self]
/-- the crossings below x by which all go -/
def agN (c : Nat → Nat) (a b o : Nat) : Nat → Nat := fun x => match x with
  | 0 => 0
  | x + 1 => if x ≠ a ∧ x ≠ b ∧ sbN c a b (andn o (1 <<< x)) = none then agN c a b o x ||| 1 <<< x else agN c a b o x
theorem agS {a b o x : Nat} : agN c a b o (x + 1) = if x ≠ a ∧ x ≠ b ∧ sbN c a b (andn o (1 <<< x)) = none then agN c a b o x ||| 1 <<< x else agN c a b o x := rfl
theorem oI_some {o : Option Nat} (h : ∀ d, o = some d → d < 2 ^ 31) (hn : o ≠ none) : ¬ oI o = -1 := by
  cases o with
  | none => exact absurd rfl hn
  | some d => exact fun z => nI_m1 (h d rfl) z.symm
theorem l_cAll {g a b o : Nat} (hB : BR σ P D) (hC : CC σ P c) (hw : WC c) (ha : a < c 0) (hb : b < c 0) : ∀ (f x : Nat), x + f = c 0 → Q (some (.int (nI (agN c a b o (c 0))))) σ → Wq none 106 69 [some (.ref (0 : Nat)), some (.int (nI g)), some (.int (nI a)), some (.int (nI b)), some (.int (nI o)), some (.int (nI (agN c a b o x))), some (.int (nI x))] [] σ Q := by
  obtain ⟨b0, b3, b4, b5, b6, b7, b8, b9, b10, b11, b12⟩ := id hB
  obtain ⟨w0, w2, w3, w4, w5, w6, w7, w8, w9⟩ := id hw
  have kP := hC.1.1
  obtain ⟨-, -, ⟨i0, i2, i3, i4⟩, -⟩ := id hC
  intro f
  induction f with
  | zero =>
    intro x hx hq
    obtain rfl : x = c 0 := by omega
    rw [w106_69]
    simp only [w106_0, w106_1, w106_4, w106_5, w106_8, w106_11, w106_12, w106_15, w106_16, w106_19, w106_22, w106_23, w106_26, w106_27, w106_30, w106_33, w106_35, w106_36, w106_37, w106_40, w106_41, w106_44, w106_46, w106_47, w106_50, w106_51, w106_52, w106_54, w106_57, w106_58, w106_61, w106_62, w106_63, w106_64, w106_66, w106_67, w106_71, w106_72, w106_75, w106_78, w106_81, w106_83, w106_84, w106_87, w106_89, w106_90, w106_93, w106_94, w106_97, w106_98, w106_99, w106_101, w106_102, w106_104, w106_105, w106_106, w106_107, w106_108, w106_111, w106_112, w106_115, w106_117, w106_118, w106_120, w106_121, w106_122, w106_124, w106_127, w106_130, w106_132, ks_0, kP, b4, i0, nI_le (Nat.le_refl (c 0)) (show c 0 < 2 ^ 31 by omega), ↓reduceIte, Option.toList_some, Option.toList_none, List.cons_append, List.nil_append]
    exact hq
  | succ f ih =>
    intro x hx hq
    have ih := ih (x + 1) (by omega) hq
    have h1 : ¬ nI (c 0) ≤ nI x := nI_ge (by omega) (by omega)
    have ea : nI x = nI a ↔ x = a := nI_eq (by omega) (by omega)
    have eb : nI x = nI b ↔ x = b := nI_eq (by omega) (by omega)
    rw [agS] at ih
    rw [w106_69]
    by_cases h2 : x = a
    · rw [if_neg (fun z => z.1 h2)] at ih
      subst h2
      simp only [w106_0, w106_1, w106_4, w106_5, w106_8, w106_11, w106_12, w106_15, w106_16, w106_19, w106_22, w106_23, w106_26, w106_27, w106_30, w106_33, w106_35, w106_36, w106_37, w106_40, w106_41, w106_44, w106_46, w106_47, w106_50, w106_51, w106_52, w106_54, w106_57, w106_58, w106_61, w106_62, w106_63, w106_64, w106_66, w106_67, w106_71, w106_72, w106_75, w106_78, w106_81, w106_83, w106_84, w106_87, w106_89, w106_90, w106_93, w106_94, w106_97, w106_98, w106_99, w106_101, w106_102, w106_104, w106_105, w106_106, w106_107, w106_108, w106_111, w106_112, w106_115, w106_117, w106_118, w106_120, w106_121, w106_122, w106_124, w106_127, w106_130, w106_132, ks_0, kP, b4, i0, h1, nI_add, ↓reduceIte, Option.toList_some, Option.toList_none, List.cons_append, List.nil_append]
      exact ih
    · by_cases h3 : x = b
      · rw [if_neg (fun z => z.2.1 h3)] at ih
        subst h3
        simp only [w106_0, w106_1, w106_4, w106_5, w106_8, w106_11, w106_12, w106_15, w106_16, w106_19, w106_22, w106_23, w106_26, w106_27, w106_30, w106_33, w106_35, w106_36, w106_37, w106_40, w106_41, w106_44, w106_46, w106_47, w106_50, w106_51, w106_52, w106_54, w106_57, w106_58, w106_61, w106_62, w106_63, w106_64, w106_66, w106_67, w106_71, w106_72, w106_75, w106_78, w106_81, w106_83, w106_84, w106_87, w106_89, w106_90, w106_93, w106_94, w106_97, w106_98, w106_99, w106_101, w106_102, w106_104, w106_105, w106_106, w106_107, w106_108, w106_111, w106_112, w106_115, w106_117, w106_118, w106_120, w106_121, w106_122, w106_124, w106_127, w106_130, w106_132, ks_0, kP, b4, i0, h1, ea, h2, nI_add, ↓reduceIte, Option.toList_some, Option.toList_none, List.cons_append, List.nil_append]
        exact ih
      · by_cases h4 : sbN c a b (andn o (1 <<< x)) = none
        · rw [if_pos ⟨h2, h3, h4⟩] at ih
          simp only [w106_0, w106_1, w106_4, w106_5, w106_8, w106_11, w106_12, w106_15, w106_16, w106_19, w106_22, w106_23, w106_26, w106_27, w106_30, w106_33, w106_35, w106_36, w106_37, w106_40, w106_41, w106_44, w106_46, w106_47, w106_50, w106_51, w106_52, w106_54, w106_57, w106_58, w106_61, w106_62, w106_63, w106_64, w106_66, w106_67, w106_71, w106_72, w106_75, w106_78, w106_81, w106_83, w106_84, w106_87, w106_89, w106_90, w106_93, w106_94, w106_97, w106_98, w106_99, w106_101, w106_102, w106_104, w106_105, w106_106, w106_107, w106_108, w106_111, w106_112, w106_115, w106_117, w106_118, w106_120, w106_121, w106_122, w106_124, w106_127, w106_130, w106_132, ks_0, kP, b4, i0, h1, ea, h2, eb, h3, nI_shl 1 (show x < 32 by omega), nI_andn, c_streetsBetween hC hw ha hb, h4, oI, nI_or, nI_add, ↓reduceIte, Option.toList_some, Option.toList_none, List.cons_append, List.nil_append]
          exact ih
        · rw [if_neg (fun z => h4 z.2.2)] at ih
          have h5 : ¬ oI (sbN c a b (andn o (1 <<< x))) = -1 := oI_some (fun d hd => by have := sbN_lt hd; omega) h4
          simp only [w106_0, w106_1, w106_4, w106_5, w106_8, w106_11, w106_12, w106_15, w106_16, w106_19, w106_22, w106_23, w106_26, w106_27, w106_30, w106_33, w106_35, w106_36, w106_37, w106_40, w106_41, w106_44, w106_46, w106_47, w106_50, w106_51, w106_52, w106_54, w106_57, w106_58, w106_61, w106_62, w106_63, w106_64, w106_66, w106_67, w106_71, w106_72, w106_75, w106_78, w106_81, w106_83, w106_84, w106_87, w106_89, w106_90, w106_93, w106_94, w106_97, w106_98, w106_99, w106_101, w106_102, w106_104, w106_105, w106_106, w106_107, w106_108, w106_111, w106_112, w106_115, w106_117, w106_118, w106_120, w106_121, w106_122, w106_124, w106_127, w106_130, w106_132, ks_0, kP, b4, i0, h1, ea, h2, eb, h3, nI_shl 1 (show x < 32 by omega), nI_andn, c_streetsBetween hC hw ha hb, h5, nI_add, ↓reduceIte, Option.toList_some, Option.toList_none, List.cons_append, List.nil_append]
          exact ih
theorem l_mAll {g a b : Nat} (hM : MR σ) (hc : MC σ c) (hn : MN σ n) (hw : WC c) (hg : g < c 2) (ho : andn (n (6 + g)) (n 19) < 2 ^ 31) (ha : a < c 0) (hb : b < c 0) : ∀ (f x : Nat) (aw : Nat → Nat), x + f = c 0 → (∀ aw', Q (some (.int (nI (agN c a b (andn (n (6 + g)) (n 19)) (c 0))))) (aset σ aw')) → Wq none 193 56 [some (.ref (118 : Nat)), some (.int (nI g)), some (.int (nI a)), some (.int (nI b)), some (.int (nI (agN c a b (andn (n (6 + g)) (n 19)) x))), some (.int (nI 1)), some (.int (nI x))] [] (aset σ aw) Q := by
  obtain ⟨w0, w2, w3, w4, w5, w6, w7, w8, w9⟩ := id hw
  intro f
  induction f with
  | zero =>
    intro x aw hx hq
    obtain rfl : x = c 0 := by omega
    have hM2 := MR_a (aw := aw) hM
    have hc2 := MC_a (aw := aw) hc
    have m0 : aset σ aw 118 0 = (.ref (119 : Nat)) := hM2.1
    rw [w193_56]
    simp only [w193_0, w193_1, w193_2, w193_5, w193_8, w193_9, w193_10, w193_13, w193_16, w193_17, w193_18, w193_21, w193_24, w193_26, w193_27, w193_28, w193_30, w193_31, w193_32, w193_33, w193_36, w193_37, w193_38, w193_41, w193_43, w193_46, w193_47, w193_50, w193_51, w193_53, w193_54, w193_58, w193_59, w193_62, w193_63, w193_64, w193_67, w193_69, w193_72, w193_74, w193_76, w193_77, w193_80, w193_82, w193_83, w193_86, w193_87, w193_88, w193_89, w193_92, w193_93, w193_95, w193_96, w193_97, w193_98, w193_99, w193_100, w193_101, w193_104, w193_106, w193_109, w193_110, w193_112, w193_113, w193_116, w193_117, w193_118, w193_120, w193_123, w193_126, w193_128, ks_118, m0, kt_119, in_nI (show 0 < kl 119 by rw [kl_119]; omega) (by rw [kl_119]; omega), nI_clamp (show 0 < 2 ^ 31 by omega), hc2 0 (by omega), nI_le (Nat.le_refl (c 0)) (show c 0 < 2 ^ 31 by omega), ↓reduceIte, Option.toList_some, Option.toList_none, List.cons_append, List.nil_append]
    exact hq aw
  | succ f ih =>
    intro x aw hx hq
    have ih := fun aw => ih (x + 1) aw (by omega) hq
    have hM2 := MR_a (aw := aw) hM
    have hc2 := MC_a (aw := aw) hc
    have hn2 := MN_a (aw := aw) hn
    have m0 : aset σ aw 118 0 = (.ref (119 : Nat)) := hM2.1
    have h1 : ¬ nI (c 0) ≤ nI x := nI_ge (by omega) (by omega)
    have ea : nI x = nI a ↔ x = a := nI_eq (by omega) (by omega)
    have eb : nI x = nI b ↔ x = b := nI_eq (by omega) (by omega)
    have h0 : ∀ s, s ||| 0 = s := fun s => Nat.or_zero s
    rw [agS] at ih
    rw [w193_56]
    by_cases h2 : x = a
    · rw [if_neg (fun z => z.1 h2)] at ih
      subst h2
      simp only [w193_0, w193_1, w193_2, w193_5, w193_8, w193_9, w193_10, w193_13, w193_16, w193_17, w193_18, w193_21, w193_24, w193_26, w193_27, w193_28, w193_30, w193_31, w193_32, w193_33, w193_36, w193_37, w193_38, w193_41, w193_43, w193_46, w193_47, w193_50, w193_51, w193_53, w193_54, w193_58, w193_59, w193_62, w193_63, w193_64, w193_67, w193_69, w193_72, w193_74, w193_76, w193_77, w193_80, w193_82, w193_83, w193_86, w193_87, w193_88, w193_89, w193_92, w193_93, w193_95, w193_96, w193_97, w193_98, w193_99, w193_100, w193_101, w193_104, w193_106, w193_109, w193_110, w193_112, w193_113, w193_116, w193_117, w193_118, w193_120, w193_123, w193_126, w193_128, ks_118, m0, kt_119, in_nI (show 0 < kl 119 by rw [kl_119]; omega) (by rw [kl_119]; omega), nI_clamp (show 0 < 2 ^ 31 by omega), hc2 0 (by omega), h1, nI_ne1, nI_or, h0, nI_add, ↓reduceIte, Option.toList_some, Option.toList_none, List.cons_append, List.nil_append]
      exact ih aw
    · by_cases h3 : x = b
      · rw [if_neg (fun z => z.2.1 h3)] at ih
        subst h3
        simp only [w193_0, w193_1, w193_2, w193_5, w193_8, w193_9, w193_10, w193_13, w193_16, w193_17, w193_18, w193_21, w193_24, w193_26, w193_27, w193_28, w193_30, w193_31, w193_32, w193_33, w193_36, w193_37, w193_38, w193_41, w193_43, w193_46, w193_47, w193_50, w193_51, w193_53, w193_54, w193_58, w193_59, w193_62, w193_63, w193_64, w193_67, w193_69, w193_72, w193_74, w193_76, w193_77, w193_80, w193_82, w193_83, w193_86, w193_87, w193_88, w193_89, w193_92, w193_93, w193_95, w193_96, w193_97, w193_98, w193_99, w193_100, w193_101, w193_104, w193_106, w193_109, w193_110, w193_112, w193_113, w193_116, w193_117, w193_118, w193_120, w193_123, w193_126, w193_128, ks_118, m0, kt_119, in_nI (show 0 < kl 119 by rw [kl_119]; omega) (by rw [kl_119]; omega), nI_clamp (show 0 < 2 ^ 31 by omega), hc2 0 (by omega), h1, nI_ne1, ea, h2, nI_or, h0, nI_add, ↓reduceIte, Option.toList_some, Option.toList_none, List.cons_append, List.nil_append]
        exact ih aw
      · have h31 : andn (andn (n (6 + g)) (n 19)) (1 <<< x) < 2 ^ 31 := andn_lt ho
        by_cases h4 : sbN c a b (andn (andn (n (6 + g)) (n 19)) (1 <<< x)) = none
        · rw [if_pos ⟨h2, h3, h4⟩] at ih
          have hl := lay_fn hw ha hb h4
          simp only [w193_0, w193_1, w193_2, w193_5, w193_8, w193_9, w193_10, w193_13, w193_16, w193_17, w193_18, w193_21, w193_24, w193_26, w193_27, w193_28, w193_30, w193_31, w193_32, w193_33, w193_36, w193_37, w193_38, w193_41, w193_43, w193_46, w193_47, w193_50, w193_51, w193_53, w193_54, w193_58, w193_59, w193_62, w193_63, w193_64, w193_67, w193_69, w193_72, w193_74, w193_76, w193_77, w193_80, w193_82, w193_83, w193_86, w193_87, w193_88, w193_89, w193_92, w193_93, w193_95, w193_96, w193_97, w193_98, w193_99, w193_100, w193_101, w193_104, w193_106, w193_109, w193_110, w193_112, w193_113, w193_116, w193_117, w193_118, w193_120, w193_123, w193_126, w193_128, ks_118, m0, kt_119, in_nI (show 0 < kl 119 by rw [kl_119]; omega) (by rw [kl_119]; omega), nI_clamp (show 0 < 2 ^ 31 by omega), hc2 0 (by omega), h1, nI_ne1, ea, h2, eb, h3, c_open hM2 hn2 (show g < 6 by omega), nI_shl 1 (show x < 32 by omega), nI_andn, c_lengthA hM hc hw h31 (show b < 2 ^ 31 by omega) (show a < 8 by omega), hl, (by decide : ¬ nI 100000000 < nI 100000000), nI_or, nI_add, ↓reduceIte, Option.toList_some, Option.toList_none, List.cons_append, List.nil_append]
          exact ih _
        · rw [if_neg (fun z => h4 z.2.2)] at ih
          cases hs : sbN c a b (andn (andn (n (6 + g)) (n 19)) (1 <<< x)) with
          | none => exact absurd hs h4
          | some d =>
            obtain ⟨e1, e2, e3⟩ := lay_fs hw ha hb hs
            simp only [w193_0, w193_1, w193_2, w193_5, w193_8, w193_9, w193_10, w193_13, w193_16, w193_17, w193_18, w193_21, w193_24, w193_26, w193_27, w193_28, w193_30, w193_31, w193_32, w193_33, w193_36, w193_37, w193_38, w193_41, w193_43, w193_46, w193_47, w193_50, w193_51, w193_53, w193_54, w193_58, w193_59, w193_62, w193_63, w193_64, w193_67, w193_69, w193_72, w193_74, w193_76, w193_77, w193_80, w193_82, w193_83, w193_86, w193_87, w193_88, w193_89, w193_92, w193_93, w193_95, w193_96, w193_97, w193_98, w193_99, w193_100, w193_101, w193_104, w193_106, w193_109, w193_110, w193_112, w193_113, w193_116, w193_117, w193_118, w193_120, w193_123, w193_126, w193_128, ks_118, m0, kt_119, in_nI (show 0 < kl 119 by rw [kl_119]; omega) (by rw [kl_119]; omega), nI_clamp (show 0 < 2 ^ 31 by omega), hc2 0 (by omega), h1, nI_ne1, ea, h2, eb, h3, c_open hM2 hn2 (show g < 6 by omega), nI_shl 1 (show x < 32 by omega), nI_andn, c_lengthA hM hc hw h31 (show b < 2 ^ 31 by omega) (show a < 8 by omega), e1, e2, nI_or, h0, nI_add, ↓reduceIte, Option.toList_some, Option.toList_none, List.cons_append, List.nil_append]
            exact ih _
theorem pr_allGoBy (x y z : Int32) (hI : Inv σ) : Pr Inv 106 193 [.int x, .int y, .int z] σ := by
  obtain ⟨c, n, k, p, q, im, h, hs, ht, m, bg, bx, L, tx, f, s, hWA, hCA, hMA⟩ := id hI; obtain ⟨hw, hwn, ⟨hk16, hkp⟩, ⟨hq4, hqi⟩, ⟨hh9, hhs, hht⟩, ⟨hm15, hmb⟩, ⟨hL240, htx⟩, hs31⟩ := id hWA; obtain ⟨⟨P, D, hPD, hB, hC, hD⟩, hN, hPa, hIm, hHe, hBk, hTx, hF, hS, hSc⟩ := id hCA; obtain ⟨hM, hc, hn, hmP, hmI, hmH, hmB, hmT, hmF, hmS⟩ := id hMA
  obtain ⟨b0, b3, b4, b5, b6, b7, b8, b9, b10, b11, b12⟩ := id hB
  obtain ⟨w0, w2, w3, w4, w5, w6, w7, w8, w9⟩ := id hw
  obtain ⟨m0, m1, m2, m3, m5, m6, m8, m11, m12, m14, m22, m23, m24, m25, m29, m30, m31, m32⟩ := id hM
  obtain ⟨⟨kP, ⟨t1, l1⟩, ⟨t2, l2⟩, ⟨t3, l3⟩, ⟨t4, l4⟩, ⟨t5, l5⟩, ⟨t6, l6⟩, ⟨t7, l7⟩, ⟨t8, l8⟩, ⟨t9, l9⟩⟩, ⟨r1, r2, r3, r4, r5, r6, r7, r8, r9⟩, ⟨i0, i2, i3, i4⟩, f1, f2, f3, f4, f5, f6, f7⟩ := id hC
  obtain ⟨⟨kS, ⟨u1, v1⟩, ⟨u2, v2⟩, ⟨u3, v3⟩⟩, ⟨q0, q1, q2⟩, ⟨j3, j4, j5, j6⟩, jf⟩ := id hN
  rcases ix_cs x (show c 2 < 2 ^ 31 by omega) with ⟨g, hg, rfl⟩ | ⟨hx, hx2⟩
  · rcases ix_cs y (show c 0 < 2 ^ 31 by omega) with ⟨a, ha, rfl⟩ | ⟨hy, hy2⟩
    · rcases ix_cs z (show c 0 < 2 ^ 31 by omega) with ⟨b, hb, rfl⟩ | ⟨hz, hz2⟩
      · have ho := andn_lt31 hw hwn hg
        refine pr_ex (Er_ex ?_)
        show Wq none 106 0 [some (.ref (0 : Nat)), some (.int (nI g)), some (.int (nI a)), some (.int (nI b)), none, none, none] [] σ _
        cases hs : sbN c a b (andn (n (6 + g)) (n 19)) with
        | none =>
          have hl := lay_fn hw ha hb hs
          simp only [w106_0, w106_1, w106_4, w106_5, w106_8, w106_11, w106_12, w106_15, w106_16, w106_19, w106_22, w106_23, w106_26, w106_27, w106_30, w106_33, w106_35, w106_36, w106_37, w106_40, w106_41, w106_44, w106_46, w106_47, w106_50, w106_51, w106_52, w106_54, w106_57, w106_58, w106_61, w106_62, w106_63, w106_64, w106_66, w106_67, w106_71, w106_72, w106_75, w106_78, w106_81, w106_83, w106_84, w106_87, w106_89, w106_90, w106_93, w106_94, w106_97, w106_98, w106_99, w106_101, w106_102, w106_104, w106_105, w106_106, w106_107, w106_108, w106_111, w106_112, w106_115, w106_117, w106_118, w106_120, w106_121, w106_122, w106_124, w106_127, w106_130, w106_132, ks_0, ks_24, kP, b4, b6, c_hasGuide hC hg hw, c_hasCrossing hC ha hw, c_hasCrossing hC hb hw, nI_ne1, c_openTo hN w2 hg, c_streetsBetween hC hw ha hb, hs, oI, ↓reduceIte, Option.toList_some, Option.toList_none, List.cons_append, List.nil_append]
          refine ⟨_, rfl, Er_ex ?_⟩
          show Wq none 193 0 [some (.ref (118 : Nat)), some (.int (nI g)), some (.int (nI a)), some (.int (nI b)), none, none, none] [] σ _
          have m02 : aset σ (lay c (andn (n (6 + g)) (n 19)) b) 118 0 = (.ref (119 : Nat)) := (MR_a hM).1
          have hc2 := MC_a (aw := lay c (andn (n (6 + g)) (n 19)) b) hc
          have h1 : ¬ nI (c 0) ≤ nI 0 := nI_ge (by omega) (by omega)
          simp only [w193_0, w193_1, w193_2, w193_5, w193_8, w193_9, w193_10, w193_13, w193_16, w193_17, w193_18, w193_21, w193_24, w193_26, w193_27, w193_28, w193_30, w193_31, w193_32, w193_33, w193_36, w193_37, w193_38, w193_41, w193_43, w193_46, w193_47, w193_50, w193_51, w193_53, w193_54, w193_56, w193_58, w193_59, w193_62, w193_63, w193_64, w193_67, w193_69, w193_72, w193_74, w193_76, w193_77, w193_80, w193_82, w193_83, w193_86, w193_87, w193_88, w193_89, w193_92, w193_93, w193_95, w193_96, w193_97, w193_98, w193_99, w193_100, w193_101, w193_104, w193_106, w193_109, w193_110, w193_112, w193_113, w193_116, w193_117, w193_118, w193_120, w193_123, w193_126, w193_128, ks_118, c_isGuide (x := nI g) hM hc hw ⟨g, hg, rfl⟩, c_isCrossing (x := nI a) hM hc hw ⟨a, ha, rfl⟩, c_isCrossing (x := nI b) hM hc hw ⟨b, hb, rfl⟩, nI_ne1, c_open hM hn (show g < 6 by omega), c_length hM hc hw ho (show b < 2 ^ 31 by omega) (show a < 8 by omega), hl, (by decide : nI 100000000 ≤ nI 100000000), m02, kt_119, in_nI (show 0 < kl 119 by rw [kl_119]; omega) (by rw [kl_119]; omega), nI_clamp (show 0 < 2 ^ 31 by omega), hc2 0 (by omega), h1, ↓reduceIte, Option.toList_some, Option.toList_none, List.cons_append, List.nil_append]
          exact ⟨trivial, inv_aset hI⟩
        | some d =>
          obtain ⟨e1, e2, e3⟩ := lay_fs hw ha hb hs
          have hd : d < 2 ^ 31 := by have := sbN_lt hs; omega
          have hm1 : ¬ nI d = -1 := fun q => nI_m1 hd q.symm
          simp only [w106_0, w106_1, w106_4, w106_5, w106_8, w106_11, w106_12, w106_15, w106_16, w106_19, w106_22, w106_23, w106_26, w106_27, w106_30, w106_33, w106_35, w106_36, w106_37, w106_40, w106_41, w106_44, w106_46, w106_47, w106_50, w106_51, w106_52, w106_54, w106_57, w106_58, w106_61, w106_62, w106_63, w106_64, w106_66, w106_67, w106_71, w106_72, w106_75, w106_78, w106_81, w106_83, w106_84, w106_87, w106_89, w106_90, w106_93, w106_94, w106_97, w106_98, w106_99, w106_101, w106_102, w106_104, w106_105, w106_106, w106_107, w106_108, w106_111, w106_112, w106_115, w106_117, w106_118, w106_120, w106_121, w106_122, w106_124, w106_127, w106_130, w106_132, ks_0, ks_24, kP, b4, b6, c_hasGuide hC hg hw, c_hasCrossing hC ha hw, c_hasCrossing hC hb hw, nI_ne1, c_openTo hN w2 hg, c_streetsBetween hC hw ha hb, hs, oI, hm1, ↓reduceIte, Option.toList_some, Option.toList_none, List.cons_append, List.nil_append]
          refine l_cAll hB hC hw ha hb (c 0) 0 (by omega) ?_
          refine ⟨_, rfl, Er_ex ?_⟩
          show Wq none 193 0 [some (.ref (118 : Nat)), some (.int (nI g)), some (.int (nI a)), some (.int (nI b)), none, none, none] [] σ _
          simp only [w193_0, w193_1, w193_2, w193_5, w193_8, w193_9, w193_10, w193_13, w193_16, w193_17, w193_18, w193_21, w193_24, w193_26, w193_27, w193_28, w193_30, w193_31, w193_32, w193_33, w193_36, w193_37, w193_38, w193_41, w193_43, w193_46, w193_47, w193_50, w193_51, w193_53, w193_54, w193_58, w193_59, w193_62, w193_63, w193_64, w193_67, w193_69, w193_72, w193_74, w193_76, w193_77, w193_80, w193_82, w193_83, w193_86, w193_87, w193_88, w193_89, w193_92, w193_93, w193_95, w193_96, w193_97, w193_98, w193_99, w193_100, w193_101, w193_104, w193_106, w193_109, w193_110, w193_112, w193_113, w193_116, w193_117, w193_118, w193_120, w193_123, w193_126, w193_128, ks_118, c_isGuide (x := nI g) hM hc hw ⟨g, hg, rfl⟩, c_isCrossing (x := nI a) hM hc hw ⟨a, ha, rfl⟩, c_isCrossing (x := nI b) hM hc hw ⟨b, hb, rfl⟩, nI_ne1, c_open hM hn (show g < 6 by omega), c_length hM hc hw ho (show b < 2 ^ 31 by omega) (show a < 8 by omega), e1, e3, ↓reduceIte, Option.toList_some, Option.toList_none, List.cons_append, List.nil_append]
          exact l_mAll hM hc hn hw hg ho ha hb (c 0) 0 _ (by omega) (fun aw' => ⟨rfl, inv_aset hI⟩)
      · refine pr_of (v := -1000000001) (σ1 := σ) (σ2 := σ) (fun Q => Cq_of (Er_of ?_)) (fun Q => Cq_of (Er_of ?_)) hI
        · show Wq none 106 0 [some (.ref (0 : Nat)), some (.int (nI g)), some (.int (nI a)), some (.int z), none, none, none] [] σ _
          simp only [w106_0, w106_1, w106_4, w106_5, w106_8, w106_11, w106_12, w106_15, w106_16, w106_19, w106_22, w106_23, w106_26, w106_27, w106_30, w106_33, w106_35, w106_36, w106_37, w106_40, w106_41, w106_44, w106_46, w106_47, w106_50, w106_51, w106_52, w106_54, w106_57, w106_58, w106_61, w106_62, w106_63, w106_64, w106_66, w106_67, w106_71, w106_72, w106_75, w106_78, w106_81, w106_83, w106_84, w106_87, w106_89, w106_90, w106_93, w106_94, w106_97, w106_98, w106_99, w106_101, w106_102, w106_104, w106_105, w106_106, w106_107, w106_108, w106_111, w106_112, w106_115, w106_117, w106_118, w106_120, w106_121, w106_122, w106_124, w106_127, w106_130, w106_132, ks_0, kP, b4, c_hasGuide hC hg hw, c_hasCrossing hC ha hw, c_hasCrossing_f hC hz, nI_ne1, ↓reduceIte, Option.toList_some, Option.toList_none, List.cons_append, List.nil_append, and_self]
        · show Wq none 193 0 [some (.ref (118 : Nat)), some (.int (nI g)), some (.int (nI a)), some (.int z), none, none, none] [] σ _
          simp only [w193_0, w193_1, w193_2, w193_5, w193_8, w193_9, w193_10, w193_13, w193_16, w193_17, w193_18, w193_21, w193_24, w193_26, w193_27, w193_28, w193_30, w193_31, w193_32, w193_33, w193_36, w193_37, w193_38, w193_41, w193_43, w193_46, w193_47, w193_50, w193_51, w193_53, w193_54, w193_58, w193_59, w193_62, w193_63, w193_64, w193_67, w193_69, w193_72, w193_74, w193_76, w193_77, w193_80, w193_82, w193_83, w193_86, w193_87, w193_88, w193_89, w193_92, w193_93, w193_95, w193_96, w193_97, w193_98, w193_99, w193_100, w193_101, w193_104, w193_106, w193_109, w193_110, w193_112, w193_113, w193_116, w193_117, w193_118, w193_120, w193_123, w193_126, w193_128, ks_118, c_isGuide (x := nI g) hM hc hw ⟨g, hg, rfl⟩, c_isCrossing (x := nI a) hM hc hw ⟨a, ha, rfl⟩, c_isCrossing_f hM hc hw hz2, nI_ne1, ↓reduceIte, Option.toList_some, Option.toList_none, List.cons_append, List.nil_append, and_self]
    · refine pr_of (v := -1000000001) (σ1 := σ) (σ2 := σ) (fun Q => Cq_of (Er_of ?_)) (fun Q => Cq_of (Er_of ?_)) hI
      · show Wq none 106 0 [some (.ref (0 : Nat)), some (.int (nI g)), some (.int y), some (.int z), none, none, none] [] σ _
        simp only [w106_0, w106_1, w106_4, w106_5, w106_8, w106_11, w106_12, w106_15, w106_16, w106_19, w106_22, w106_23, w106_26, w106_27, w106_30, w106_33, w106_35, w106_36, w106_37, w106_40, w106_41, w106_44, w106_46, w106_47, w106_50, w106_51, w106_52, w106_54, w106_57, w106_58, w106_61, w106_62, w106_63, w106_64, w106_66, w106_67, w106_71, w106_72, w106_75, w106_78, w106_81, w106_83, w106_84, w106_87, w106_89, w106_90, w106_93, w106_94, w106_97, w106_98, w106_99, w106_101, w106_102, w106_104, w106_105, w106_106, w106_107, w106_108, w106_111, w106_112, w106_115, w106_117, w106_118, w106_120, w106_121, w106_122, w106_124, w106_127, w106_130, w106_132, ks_0, kP, b4, c_hasGuide hC hg hw, c_hasCrossing_f hC hy, nI_ne1, ↓reduceIte, Option.toList_some, Option.toList_none, List.cons_append, List.nil_append, and_self]
      · show Wq none 193 0 [some (.ref (118 : Nat)), some (.int (nI g)), some (.int y), some (.int z), none, none, none] [] σ _
        simp only [w193_0, w193_1, w193_2, w193_5, w193_8, w193_9, w193_10, w193_13, w193_16, w193_17, w193_18, w193_21, w193_24, w193_26, w193_27, w193_28, w193_30, w193_31, w193_32, w193_33, w193_36, w193_37, w193_38, w193_41, w193_43, w193_46, w193_47, w193_50, w193_51, w193_53, w193_54, w193_58, w193_59, w193_62, w193_63, w193_64, w193_67, w193_69, w193_72, w193_74, w193_76, w193_77, w193_80, w193_82, w193_83, w193_86, w193_87, w193_88, w193_89, w193_92, w193_93, w193_95, w193_96, w193_97, w193_98, w193_99, w193_100, w193_101, w193_104, w193_106, w193_109, w193_110, w193_112, w193_113, w193_116, w193_117, w193_118, w193_120, w193_123, w193_126, w193_128, ks_118, c_isGuide (x := nI g) hM hc hw ⟨g, hg, rfl⟩, c_isCrossing_f hM hc hw hy2, nI_ne1, ↓reduceIte, Option.toList_some, Option.toList_none, List.cons_append, List.nil_append, and_self]
  · refine pr_of (v := -1000000001) (σ1 := σ) (σ2 := σ) (fun Q => Cq_of (Er_of ?_)) (fun Q => Cq_of (Er_of ?_)) hI
    · show Wq none 106 0 [some (.ref (0 : Nat)), some (.int x), some (.int y), some (.int z), none, none, none] [] σ _
      simp only [w106_0, w106_1, w106_4, w106_5, w106_8, w106_11, w106_12, w106_15, w106_16, w106_19, w106_22, w106_23, w106_26, w106_27, w106_30, w106_33, w106_35, w106_36, w106_37, w106_40, w106_41, w106_44, w106_46, w106_47, w106_50, w106_51, w106_52, w106_54, w106_57, w106_58, w106_61, w106_62, w106_63, w106_64, w106_66, w106_67, w106_71, w106_72, w106_75, w106_78, w106_81, w106_83, w106_84, w106_87, w106_89, w106_90, w106_93, w106_94, w106_97, w106_98, w106_99, w106_101, w106_102, w106_104, w106_105, w106_106, w106_107, w106_108, w106_111, w106_112, w106_115, w106_117, w106_118, w106_120, w106_121, w106_122, w106_124, w106_127, w106_130, w106_132, ks_0, kP, b4, c_hasGuide_f hC hx, nI_ne1, ↓reduceIte, Option.toList_some, Option.toList_none, List.cons_append, List.nil_append, and_self]
    · show Wq none 193 0 [some (.ref (118 : Nat)), some (.int x), some (.int y), some (.int z), none, none, none] [] σ _
      simp only [w193_0, w193_1, w193_2, w193_5, w193_8, w193_9, w193_10, w193_13, w193_16, w193_17, w193_18, w193_21, w193_24, w193_26, w193_27, w193_28, w193_30, w193_31, w193_32, w193_33, w193_36, w193_37, w193_38, w193_41, w193_43, w193_46, w193_47, w193_50, w193_51, w193_53, w193_54, w193_58, w193_59, w193_62, w193_63, w193_64, w193_67, w193_69, w193_72, w193_74, w193_76, w193_77, w193_80, w193_82, w193_83, w193_86, w193_87, w193_88, w193_89, w193_92, w193_93, w193_95, w193_96, w193_97, w193_98, w193_99, w193_100, w193_101, w193_104, w193_106, w193_109, w193_110, w193_112, w193_113, w193_116, w193_117, w193_118, w193_120, w193_123, w193_126, w193_128, ks_118, c_isGuide_f hM hc hw hx2, nI_ne1, ↓reduceIte, Option.toList_some, Option.toList_none, List.cons_append, List.nil_append, and_self]
-- clouds
def clN (q : Int64) : Nat → Int64 → Int64 := fun k u => match k with
  | 0 => u
  | k + 1 => clN q k (u * q / lN 100)
theorem l_cCl {q : Int32} {d : Nat} (hd : d < 2 ^ 31) : ∀ (f i : Nat) (u : Int64), i + f = d → Wq none 108 30 [some (.ref (0 : Nat)), some (.int (nI d)), some (.int q), some (.long u), none, some (.int (nI i))] [] σ Q = Q (some (.int (clN q.toInt64 f u).toInt32)) σ := by
  intro f
  induction f with
  | zero =>
    intro i u hi
    obtain rfl : i = d := by omega
    rw [w108_30]
    simp only [w108_0, w108_1, w108_4, w108_5, w108_7, w108_10, w108_11, w108_14, w108_15, w108_17, w108_20, w108_22, w108_23, w108_26, w108_27, w108_28, w108_32, w108_33, w108_36, w108_37, w108_38, w108_39, w108_40, w108_43, w108_44, w108_45, w108_48, w108_51, w108_52, w108_53, nI_le (Nat.le_refl i) hd, ↓reduceIte, Option.toList_some, Option.toList_none, List.cons_append, List.nil_append]
    rfl
  | succ f ih =>
    intro i u hi
    have h1 : ¬ nI d ≤ nI i := nI_ge (by omega) hd
    rw [w108_30]
    simp only [w108_0, w108_1, w108_4, w108_5, w108_7, w108_10, w108_11, w108_14, w108_15, w108_17, w108_20, w108_22, w108_23, w108_26, w108_27, w108_28, w108_32, w108_33, w108_36, w108_37, w108_38, w108_39, w108_40, w108_43, w108_44, w108_45, w108_48, w108_51, w108_52, w108_53, h1, (by decide : ¬ lN 100 = 0), not_false_eq_true, nI_add, ↓reduceIte, Option.toList_some, Option.toList_none, List.cons_append, List.nil_append]
    exact ih (i + 1) _ (by omega)
theorem l_mCl {q : Int32} {d : Nat} (hd : d < 2 ^ 31) : ∀ (f i : Nat) (u : Int64), i + f = d → Wq none 195 34 [some (.ref (118 : Nat)), some (.int (nI d)), some (.int q), some (.long u), none, some (.int (nI i))] [] σ Q = Q (some (.int (clN q.toInt64 f u).toInt32)) σ := by
  intro f
  induction f with
  | zero =>
    intro i u hi
    obtain rfl : i = d := by omega
    rw [w195_34]
    simp only [w195_0, w195_1, w195_2, w195_3, w195_6, w195_9, w195_12, w195_13, w195_14, w195_15, w195_18, w195_21, w195_24, w195_26, w195_27, w195_30, w195_31, w195_32, w195_36, w195_37, w195_40, w195_41, w195_42, w195_43, w195_44, w195_47, w195_48, w195_49, w195_52, w195_55, w195_56, w195_57, nI_le (Nat.le_refl i) hd, ↓reduceIte, Option.toList_some, Option.toList_none, List.cons_append, List.nil_append]
    rfl
  | succ f ih =>
    intro i u hi
    have h1 : ¬ nI d ≤ nI i := nI_ge (by omega) hd
    rw [w195_34]
    simp only [w195_0, w195_1, w195_2, w195_3, w195_6, w195_9, w195_12, w195_13, w195_14, w195_15, w195_18, w195_21, w195_24, w195_26, w195_27, w195_30, w195_31, w195_32, w195_36, w195_37, w195_40, w195_41, w195_42, w195_43, w195_44, w195_47, w195_48, w195_49, w195_52, w195_55, w195_56, w195_57, h1, (by decide : ¬ lN 100 = 0), not_false_eq_true, nI_add, ↓reduceIte, Option.toList_some, Option.toList_none, List.cons_append, List.nil_append]
    exact ih (i + 1) _ (by omega)
theorem pr_clouds (x y : Int32) (hI : Inv σ) : Pr Inv 108 195 [.int x, .int y] σ := by
  rcases ix_cs x (show 61 < 2 ^ 31 by omega) with ⟨d, hd, rfl⟩ | ⟨hx, hx2⟩
  · have hd0 : ¬ nI d < nI 0 := nI_pos (by omega)
    have hd6 : ¬ nI 60 < nI d := nI_nlt (by omega) (by omega)
    have hin : lN 0 ≤ (nI d).toInt64 ∧ (nI d).toInt64 ≤ lN 60 := (in_ok2 (x := nI d) (show 60 < 2 ^ 30 by omega) (show 0 < 2 ^ 30 by omega)).mpr ⟨d, by omega, by omega, rfl⟩
    rcases ix_cs y (show 101 < 2 ^ 31 by omega) with ⟨q, hq, rfl⟩ | ⟨hy, hy2⟩
    · have hq0 : ¬ nI q < nI 0 := nI_pos (by omega)
      have hq6 : nI q ≤ nI 100 := nI_le (by omega) (by omega)
      have hin2 : lN 0 ≤ (nI q).toInt64 ∧ (nI q).toInt64 ≤ lN 100 := (in_ok2 (x := nI q) (show 100 < 2 ^ 30 by omega) (show 0 < 2 ^ 30 by omega)).mpr ⟨q, by omega, by omega, rfl⟩
      refine pr_of (v := (clN (nI q).toInt64 d (lN 1000000000)).toInt32) (σ1 := σ) (σ2 := σ) (fun Q => Cq_of (Er_of ?_)) (fun Q => Cq_of (Er_of ?_)) hI
      · show Wq none 108 0 [some (.ref (0 : Nat)), some (.int (nI d)), some (.int (nI q)), none, none, none] [] σ _
        simp only [w108_0, w108_1, w108_4, w108_5, w108_7, w108_10, w108_11, w108_14, w108_15, w108_17, w108_20, w108_22, w108_23, w108_26, w108_27, w108_28, w108_32, w108_33, w108_36, w108_37, w108_38, w108_39, w108_40, w108_43, w108_44, w108_45, w108_48, w108_51, w108_52, w108_53, hd0, hd6, hq0, hq6, l_cCl (show d < 2 ^ 31 by omega) d 0 _ (Nat.zero_add _), ↓reduceIte, Option.toList_some, Option.toList_none, List.cons_append, List.nil_append, and_self]
      · show Wq none 195 0 [some (.ref (118 : Nat)), some (.int (nI d)), some (.int (nI q)), none, none, none] [] σ _
        simp only [w195_0, w195_1, w195_2, w195_3, w195_6, w195_9, w195_12, w195_13, w195_14, w195_15, w195_18, w195_21, w195_24, w195_26, w195_27, w195_30, w195_31, w195_32, w195_36, w195_37, w195_40, w195_41, w195_42, w195_43, w195_44, w195_47, w195_48, w195_49, w195_52, w195_55, w195_56, w195_57, c_in, hin, hin2, nI_ne1, l_mCl (show d < 2 ^ 31 by omega) d 0 _ (Nat.zero_add _), ↓reduceIte, Option.toList_some, Option.toList_none, List.cons_append, List.nil_append, and_self]
    · have hin2 : ¬ (lN 0 ≤ y.toInt64 ∧ y.toInt64 ≤ lN 100) := fun q => by
        obtain ⟨j, -, h4, rfl⟩ := (in_ok2 (x := y) (show 100 < 2 ^ 30 by omega) (show 0 < 2 ^ 30 by omega)).mp q
        exact hy2 ⟨j, by omega, rfl⟩
      refine pr_of (v := -1000000002) (σ1 := σ) (σ2 := σ) (fun Q => Cq_of (Er_of ?_)) (fun Q => Cq_of (Er_of ?_)) hI
      · show Wq none 108 0 [some (.ref (0 : Nat)), some (.int (nI d)), some (.int y), none, none, none] [] σ _
        by_cases h0 : y < nI 0
        · simp only [w108_0, w108_1, w108_4, w108_5, w108_7, w108_10, w108_11, w108_14, w108_15, w108_17, w108_20, w108_22, w108_23, w108_26, w108_27, w108_28, w108_32, w108_33, w108_36, w108_37, w108_38, w108_39, w108_40, w108_43, w108_44, w108_45, w108_48, w108_51, w108_52, w108_53, hd0, hd6, h0, ↓reduceIte, Option.toList_some, Option.toList_none, List.cons_append, List.nil_append, and_self]
        · have h2 : ¬ y ≤ nI 100 := fun q => by
            have h3 := hy.resolve_left h0
            rw [Int32.le_iff_toInt_le, nI_toInt (by omega)] at h3 q
            omega
          simp only [w108_0, w108_1, w108_4, w108_5, w108_7, w108_10, w108_11, w108_14, w108_15, w108_17, w108_20, w108_22, w108_23, w108_26, w108_27, w108_28, w108_32, w108_33, w108_36, w108_37, w108_38, w108_39, w108_40, w108_43, w108_44, w108_45, w108_48, w108_51, w108_52, w108_53, hd0, hd6, h0, h2, ↓reduceIte, Option.toList_some, Option.toList_none, List.cons_append, List.nil_append, and_self]
      · show Wq none 195 0 [some (.ref (118 : Nat)), some (.int (nI d)), some (.int y), none, none, none] [] σ _
        simp only [w195_0, w195_1, w195_2, w195_3, w195_6, w195_9, w195_12, w195_13, w195_14, w195_15, w195_18, w195_21, w195_24, w195_26, w195_27, w195_30, w195_31, w195_32, w195_36, w195_37, w195_40, w195_41, w195_42, w195_43, w195_44, w195_47, w195_48, w195_49, w195_52, w195_55, w195_56, w195_57, c_in, hin, hin2, nI_ne1, ↓reduceIte, Option.toList_some, Option.toList_none, List.cons_append, List.nil_append, and_self]
  · have hin : ¬ (lN 0 ≤ x.toInt64 ∧ x.toInt64 ≤ lN 60) := fun q => by
      obtain ⟨j, -, h4, rfl⟩ := (in_ok2 (x := x) (show 60 < 2 ^ 30 by omega) (show 0 < 2 ^ 30 by omega)).mp q
      exact hx2 ⟨j, by omega, rfl⟩
    refine pr_of (v := -1000000002) (σ1 := σ) (σ2 := σ) (fun Q => Cq_of (Er_of ?_)) (fun Q => Cq_of (Er_of ?_)) hI
    · show Wq none 108 0 [some (.ref (0 : Nat)), some (.int x), some (.int y), none, none, none] [] σ _
      by_cases h0 : x < nI 0
      · simp only [w108_0, w108_1, w108_4, w108_5, w108_7, w108_10, w108_11, w108_14, w108_15, w108_17, w108_20, w108_22, w108_23, w108_26, w108_27, w108_28, w108_32, w108_33, w108_36, w108_37, w108_38, w108_39, w108_40, w108_43, w108_44, w108_45, w108_48, w108_51, w108_52, w108_53, h0, ↓reduceIte, Option.toList_some, Option.toList_none, List.cons_append, List.nil_append, and_self]
      · have h2 : nI 60 < x := by
          have h3 := hx.resolve_left h0
          rw [Int32.le_iff_toInt_le, nI_toInt (by omega)] at h3
          rw [Int32.lt_iff_toInt_lt, nI_toInt (by omega)]
          omega
        simp only [w108_0, w108_1, w108_4, w108_5, w108_7, w108_10, w108_11, w108_14, w108_15, w108_17, w108_20, w108_22, w108_23, w108_26, w108_27, w108_28, w108_32, w108_33, w108_36, w108_37, w108_38, w108_39, w108_40, w108_43, w108_44, w108_45, w108_48, w108_51, w108_52, w108_53, h0, h2, ↓reduceIte, Option.toList_some, Option.toList_none, List.cons_append, List.nil_append, and_self]
    · show Wq none 195 0 [some (.ref (118 : Nat)), some (.int x), some (.int y), none, none, none] [] σ _
      simp only [w195_0, w195_1, w195_2, w195_3, w195_6, w195_9, w195_12, w195_13, w195_14, w195_15, w195_18, w195_21, w195_24, w195_26, w195_27, w195_30, w195_31, w195_32, w195_36, w195_37, w195_40, w195_41, w195_42, w195_43, w195_44, w195_47, w195_48, w195_49, w195_52, w195_55, w195_56, w195_57, c_in, hin, ↓reduceIte, Option.toList_some, Option.toList_none, List.cons_append, List.nil_append, and_self]
end RG
