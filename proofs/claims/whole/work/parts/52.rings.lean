/-! ring, all go by, pose, clouds -/
theorem pr_ex {yC yM : Nat} {as : List Value} {σ : dm_G} (h : Cq yC (.ref (0 : Nat) :: as) σ (fun r σ1 => ∃ v : Int32, r = some (.int v) ∧ Cq yM (.ref (118 : Nat) :: as) σ1 (fun r2 σ2 => r2 = some (.int v) ∧ Inv σ2))) : Pr Inv yC yM as σ := by
  obtain ⟨r, σ1, e1, v, rfl, r2, σ2, e2, rfl, hI⟩ := h
  exact ⟨v, σ1, σ2, e1, e2, hI⟩
theorem bt_leF (c aw : Nat → Nat) (o x k : Nat) : btN c aw o x k ≤ FAR := by
  unfold btN
  split
  · omega
  · exact Nat.le_refl _
theorem lay_fs {c : Nat → Nat} {o a b d : Nat} (hw : WC c) (ha : a < c 0) (hb : b < c 0) (hs : sbN c a b o = some d) : lay c o b a = d ∧ nI d < nI 100000000 ∧ ¬ nI 100000000 ≤ nI d := by
  have hl := lay_sb (o := o) hw ha hb
  rw [hs] at hl
  have hd := sbN_lt hs
  have h8 := hw.1
  refine ⟨hl, (far_lt (by omega)).mpr (by unfold FAR; omega), fun q => ?_⟩
  have := (far_le (by omega)).mp q
  unfold FAR at this
  omega
theorem lay_fn {c : Nat → Nat} {o a b : Nat} (hw : WC c) (ha : a < c 0) (hb : b < c 0) (hs : sbN c a b o = none) : lay c o b a = 100000000 := by
  have hl := lay_sb (o := o) hw ha hb
  rw [hs] at hl
  exact hl
section RG
variable {σ : dm_G} {c n : Nat → Nat} {P D : Nat} {Q : Option Value → dm_G → Prop}
theorem MR_a {aw : Nat → Nat} (hM : MR σ) : MR (aset σ aw) := MR_of (aset_cell (by omega)) hM
theorem MC_a {aw : Nat → Nat} (hc : MC σ c) : MC (aset σ aw) c := MC_of (aset_cell (by omega)) hc
theorem MN_a {aw : Nat → Nat} (hn : MN σ n) : MN (aset σ aw) n := MN_of (aset_cell (by omega)) hn
theorem c_lengthA {o a e : Nat} {aw : Nat → Nat} (hM : MR σ) (hc : MC σ c) (hw : WC c) (ho : o < 2 ^ 31) (he : e < 2 ^ 31) (ha : a < 8) : Cq 152 [(.ref (118 : Nat)), .int (nI o), .int (nI a), .int (nI e)] (aset σ aw) Q = Q (some (.int (nI (lay c o e a)))) (aset σ (lay c o e)) := by
  rw [c_length (MR_a hM) (MC_a hc) hw ho he ha, aset_aset]
theorem pr_ring (x : Int32) (hI : Inv σ) : Pr Inv 104 191 [.int x] σ := by
  obtain ⟨c, n, k, p, q, im, h, hs, ht, m, bg, bx, L, tx, f, s, hWA, hCA, hMA⟩ := id hI; obtain ⟨hw, hwn, ⟨hk16, hkp⟩, ⟨hq4, hqi⟩, ⟨hh9, hhs, hht⟩, ⟨hm15, hmb⟩, ⟨hL240, htx⟩, hs31⟩ := id hWA; obtain ⟨⟨P, D, hPD, hB, hC, hD⟩, hN, hPa, hIm, hHe, hBk, hTx, hF, hS, hSc⟩ := id hCA; obtain ⟨hM, hc, hn, hmP, hmI, hmH, hmB, hmT, hmF, hmS⟩ := id hMA
  obtain ⟨b0, b3, b4, b5, b6, b7, b8, b9, b10, b11, b12⟩ := id hB
  obtain ⟨w0, w2, w3, w4, w5, w6, w7, w8, w9⟩ := id hw
  obtain ⟨m0, m1, m2, m3, m5, m6, m8, m11, m12, m14, m22, m23, m24, m25, m29, m30, m31, m32⟩ := id hM
  obtain ⟨⟨kP, ⟨t1, l1⟩, ⟨t2, l2⟩, ⟨t3, l3⟩, ⟨t4, l4⟩, ⟨t5, l5⟩, ⟨t6, l6⟩, ⟨t7, l7⟩, ⟨t8, l8⟩, ⟨t9, l9⟩⟩, ⟨r1, r2, r3, r4, r5, r6, r7, r8, r9⟩, ⟨i0, i2, i3, i4⟩, f1, f2, f3, f4, f5, f6, f7⟩ := id hC
  obtain ⟨⟨kS, ⟨u1, v1⟩, ⟨u2, v2⟩, ⟨u3, v3⟩⟩, ⟨q0, q1, q2⟩, ⟨j3, j4, j5, j6⟩, jf⟩ := id hN
  rcases ix_cs x (show c 2 < 2 ^ 31 by omega) with ⟨g, hg, rfl⟩ | ⟨hx, hx2⟩
  · have ho := andn_lt31 hw hwn hg
    obtain ⟨g1, g2, g3⟩ := hwn.1 g hg
    have hrg := rg_eq (o := andn (n (6 + g)) (n 19)) hw g1
    have hlb := lay_le c (andn (n (6 + g)) (n 19)) (n g)
    have q0' : nI 0 + nI g = nI g := by rw [nI_add, Nat.zero_add]
    have t0 := FAR_31 (bt_leF c (lay c (andn (n (6 + g)) (n 19)) (n g)) (andn (n (6 + g)) (n 19)) (n g) 0)
    have t1' := FAR_31 (bt_leF c (lay c (andn (n (6 + g)) (n 19)) (n g)) (andn (n (6 + g)) (n 19)) (n g) 1)
    have t2' := FAR_31 (bt_leF c (lay c (andn (n (6 + g)) (n 19)) (n g)) (andn (n (6 + g)) (n 19)) (n g) 2)
    have hM2 := MR_a (aw := lay c (andn (n (6 + g)) (n 19)) (n g)) hM
    have hn2 := MN_a (aw := lay c (andn (n (6 + g)) (n 19)) (n g)) hn
    have m22 : aset σ (lay c (andn (n (6 + g)) (n 19)) (n g)) 118 2 = (.ref (121 : Nat)) := hM2.2.2.1
    have hF : rgM c (andn (n (6 + g)) (n 19)) (n g) ≤ FAR := by
      unfold rgM
      omega
    have eF : min (min (min 100000000 (btN c (lay c (andn (n (6 + g)) (n 19)) (n g)) (andn (n (6 + g)) (n 19)) (n g) 0)) (btN c (lay c (andn (n (6 + g)) (n 19)) (n g)) (andn (n (6 + g)) (n 19)) (n g) 1)) (btN c (lay c (andn (n (6 + g)) (n 19)) (n g)) (andn (n (6 + g)) (n 19)) (n g) 2) = rgM c (andn (n (6 + g)) (n 19)) (n g) := rfl
    have cm : ∀ (Q : Option Value → dm_G → Prop), Cq 191 [(.ref (118 : Nat)), .int (nI g)] σ Q = Q (some (.int (oI (rgN c (n g) (andn (n (6 + g)) (n 19)))))) (aset σ (lay c (andn (n (6 + g)) (n 19)) (n g))) := by
      intro Q
      refine Cq_of (Er_of ?_)
      show Wq none 191 0 [some (.ref (118 : Nat)), some (.int (nI g)), none, none] [] σ _
      have hbt : ∀ (k : Nat) (Q : Option Value → dm_G → Prop), k < 3 → Cq 150 [(.ref (118 : Nat)), .int (nI (andn (n (6 + g)) (n 19))), .int (nI (n g)), .int (nI k)] (aset σ (lay c (andn (n (6 + g)) (n 19)) (n g))) Q = Q (some (.int (nI (btN c (lay c (andn (n (6 + g)) (n 19)) (n g)) (andn (n (6 + g)) (n 19)) (n g) k)))) (aset σ (lay c (andn (n (6 + g)) (n 19)) (n g))) := fun k Q hk => c_byTurn hM hc hw ho g1 hk hlb
      simp only [w191_0, w191_1, w191_2, w191_5, w191_8, w191_10, w191_11, w191_12, w191_13, w191_14, w191_17, w191_18, w191_21, w191_22, w191_23, w191_24, w191_25, w191_28, w191_30, w191_31, w191_32, w191_33, w191_34, w191_35, w191_38, w191_39, w191_40, w191_41, w191_42, w191_45, w191_46, w191_49, w191_50, w191_51, w191_52, w191_53, w191_54, w191_57, w191_60, w191_61, w191_64, w191_68, w191_70, w191_73, w191_74, w191_77, w191_78, ks_118, c_isGuide (x := nI g) hM hc hw ⟨g, hg, rfl⟩, nI_ne1, c_open hM hn (show g < 6 by omega), m2, m22, kt_121, q0', in_nI (show g < kl 121 by rw [kl_121]; omega) (by rw [kl_121]; omega), nI_clamp (show g < 2 ^ 31 by omega), hn g (by omega), hn2 g (by omega), c_layAway hM hc hw ho (show n g < 2 ^ 31 by omega), c_open hM2 hn2 (show g < 6 by omega), (by decide : ¬ nI 3 ≤ nI 0), (by decide : ¬ nI 3 ≤ nI 1), (by decide : ¬ nI 3 ≤ nI 2), (by decide : nI 3 ≤ nI 3), nI_add, Nat.reduceAdd, hbt 0 _ (by omega), hbt 1 _ (by omega), hbt 2 _ (by omega), c_lesser (show 100000000 < 2 ^ 31 by omega) t0, c_lesser (show min 100000000 (btN c (lay c (andn (n (6 + g)) (n 19)) (n g)) (andn (n (6 + g)) (n 19)) (n g) 0) < 2 ^ 31 by omega) t1', c_lesser (show min (min 100000000 (btN c (lay c (andn (n (6 + g)) (n 19)) (n g)) (andn (n (6 + g)) (n 19)) (n g) 0)) (btN c (lay c (andn (n (6 + g)) (n 19)) (n g)) (andn (n (6 + g)) (n 19)) (n g) 1) < 2 ^ 31 by omega) t2', eF, ↓reduceIte, Option.toList_some, Option.toList_none, List.cons_append, List.nil_append]
      cases hs : rgN c (n g) (andn (n (6 + g)) (n 19)) with
      | none =>
        rw [hs] at hrg
        have hrg : rgM c (andn (n (6 + g)) (n 19)) (n g) = 100000000 := hrg
        simp only [w191_0, w191_1, w191_2, w191_5, w191_8, w191_10, w191_11, w191_12, w191_13, w191_14, w191_17, w191_18, w191_21, w191_22, w191_23, w191_24, w191_25, w191_28, w191_30, w191_31, w191_32, w191_33, w191_34, w191_35, w191_38, w191_39, w191_40, w191_41, w191_42, w191_45, w191_46, w191_49, w191_50, w191_51, w191_52, w191_53, w191_54, w191_57, w191_60, w191_61, w191_64, w191_67, w191_68, w191_70, w191_73, w191_74, w191_77, w191_78, hrg, (by decide : ¬ nI 100000000 < nI 100000000), oI, ↓reduceIte, Option.toList_some, Option.toList_none, List.cons_append, List.nil_append, and_self]
      | some d =>
        rw [hs] at hrg
        have hrg : rgM c (andn (n (6 + g)) (n 19)) (n g) = d := hrg
        have hd : d < 1 + c 0 := (fnd_some _ _ _ hs).2.1
        have hf : nI d < nI 100000000 := (far_lt (by omega)).mpr (by unfold FAR; omega)
        simp only [w191_0, w191_1, w191_2, w191_5, w191_8, w191_10, w191_11, w191_12, w191_13, w191_14, w191_17, w191_18, w191_21, w191_22, w191_23, w191_24, w191_25, w191_28, w191_30, w191_31, w191_32, w191_33, w191_34, w191_35, w191_38, w191_39, w191_40, w191_41, w191_42, w191_45, w191_46, w191_49, w191_50, w191_51, w191_52, w191_53, w191_54, w191_57, w191_60, w191_61, w191_64, w191_67, w191_68, w191_70, w191_73, w191_74, w191_77, w191_78, hrg, hf, oI, ↓reduceIte, Option.toList_some, Option.toList_none, List.cons_append, List.nil_append, and_self]
    refine pr_of (fun Q => Cq_of (Er_of ?_)) cm (inv_aset hI)
    show Wq none 104 0 [some (.ref (0 : Nat)), some (.int (nI g))] [] σ _
    simp only [w104_0, w104_1, w104_4, w104_5, w104_8, w104_11, w104_13, w104_14, w104_15, w104_18, w104_19, w104_22, w104_25, w104_26, w104_29, w104_30, w104_33, w104_34, w104_37, w104_40, ks_0, ks_24, kP, b4, b6, q0, c_hasGuide hC hg hw, nI_ne1, c_at u1 (show g < kl (24 + 1) by rw [v1]; omega) (by rw [v1]; omega), (jf g hg).1, c_openTo hN w2 hg, c_backTo hC hw g1, ↓reduceIte, Option.toList_some, Option.toList_none, List.cons_append, List.nil_append, and_self]
  · refine pr_of (v := -1000000001) (σ1 := σ) (σ2 := σ) (fun Q => Cq_of (Er_of ?_)) (fun Q => Cq_of (Er_of ?_)) hI
    · show Wq none 104 0 [some (.ref (0 : Nat)), some (.int x)] [] σ _
      simp only [w104_0, w104_1, w104_4, w104_5, w104_8, w104_11, w104_13, w104_14, w104_15, w104_18, w104_19, w104_22, w104_25, w104_26, w104_29, w104_30, w104_33, w104_34, w104_37, w104_40, ks_0, kP, b4, c_hasGuide_f hC hx, ↓reduceIte, Option.toList_some, Option.toList_none, List.cons_append, List.nil_append, and_self]
    · show Wq none 191 0 [some (.ref (118 : Nat)), some (.int x), none, none] [] σ _
      simp only [w191_0, w191_1, w191_2, w191_5, w191_8, w191_10, w191_11, w191_12, w191_13, w191_14, w191_17, w191_18, w191_21, w191_22, w191_23, w191_24, w191_25, w191_28, w191_30, w191_31, w191_32, w191_33, w191_34, w191_35, w191_38, w191_39, w191_40, w191_41, w191_42, w191_45, w191_46, w191_49, w191_50, w191_51, w191_52, w191_53, w191_54, w191_57, w191_60, w191_61, w191_64, w191_67, w191_68, w191_70, w191_73, w191_74, w191_77, w191_78, ks_118, c_isGuide_f hM hc hw hx2, ↓reduceIte, Option.toList_some, Option.toList_none, List.cons_append, List.nil_append, and_self]
/-- the crossings below x by which all go -/
def agN (c : Nat → Nat) (a b o : Nat) : Nat → Nat := fun x => match x with
  | 0 => 0
  | x + 1 => if x ≠ a ∧ x ≠ b ∧ sbN c a b (andn o (1 <<< x)) = none then agN c a b o x ||| 1 <<< x else agN c a b o x
theorem agS {a b o x : Nat} : agN c a b o (x + 1) = if x ≠ a ∧ x ≠ b ∧ sbN c a b (andn o (1 <<< x)) = none then agN c a b o x ||| 1 <<< x else agN c a b o x := rfl
theorem oI_some {o : Option Nat} (h : ∀ d, o = some d → d < 2 ^ 31) (hn : o ≠ none) : ¬ oI o = -1 := by
  cases o with
  | none => exact absurd rfl hn
  | some d => exact fun z => nI_m1 (h d rfl) z.symm
theorem l_cAll {g a b o : Nat} (hB : BR σ P D) (hC : CC σ P c) (hw : WC c) (ha : a < c 0) (hb : b < c 0) : ∀ (f x : Nat), x + f = c 0 → Q (some (.int (nI (agN c a b o (c 0))))) σ → Wq none 105 69 [some (.ref (0 : Nat)), some (.int (nI g)), some (.int (nI a)), some (.int (nI b)), some (.int (nI o)), some (.int (nI (agN c a b o x))), some (.int (nI x))] [] σ Q := by
  obtain ⟨b0, b3, b4, b5, b6, b7, b8, b9, b10, b11, b12⟩ := id hB
  obtain ⟨w0, w2, w3, w4, w5, w6, w7, w8, w9⟩ := id hw
  have kP := hC.1.1
  obtain ⟨-, -, ⟨i0, i2, i3, i4⟩, -⟩ := id hC
  intro f
  induction f with
  | zero =>
    intro x hx hq
    obtain rfl : x = c 0 := by omega
    rw [w105_69]
    simp only [w105_0, w105_1, w105_4, w105_5, w105_8, w105_11, w105_12, w105_15, w105_16, w105_19, w105_22, w105_23, w105_26, w105_27, w105_30, w105_33, w105_35, w105_36, w105_37, w105_40, w105_41, w105_44, w105_46, w105_47, w105_50, w105_51, w105_52, w105_54, w105_57, w105_58, w105_61, w105_62, w105_63, w105_64, w105_66, w105_67, w105_71, w105_72, w105_75, w105_78, w105_81, w105_83, w105_84, w105_87, w105_89, w105_90, w105_93, w105_94, w105_97, w105_98, w105_99, w105_101, w105_102, w105_104, w105_105, w105_106, w105_107, w105_108, w105_111, w105_112, w105_115, w105_117, w105_118, w105_120, w105_121, w105_122, w105_124, w105_127, w105_130, w105_132, ks_0, kP, b4, i0, nI_le (Nat.le_refl (c 0)) (show c 0 < 2 ^ 31 by omega), ↓reduceIte, Option.toList_some, Option.toList_none, List.cons_append, List.nil_append]
    exact hq
  | succ f ih =>
    intro x hx hq
    have ih := ih (x + 1) (by omega) hq
    have h1 : ¬ nI (c 0) ≤ nI x := nI_ge (by omega) (by omega)
    have ea : nI x = nI a ↔ x = a := nI_eq (by omega) (by omega)
    have eb : nI x = nI b ↔ x = b := nI_eq (by omega) (by omega)
    rw [agS] at ih
    rw [w105_69]
    by_cases h2 : x = a
    · rw [if_neg (fun z => z.1 h2)] at ih
      subst h2
      simp only [w105_0, w105_1, w105_4, w105_5, w105_8, w105_11, w105_12, w105_15, w105_16, w105_19, w105_22, w105_23, w105_26, w105_27, w105_30, w105_33, w105_35, w105_36, w105_37, w105_40, w105_41, w105_44, w105_46, w105_47, w105_50, w105_51, w105_52, w105_54, w105_57, w105_58, w105_61, w105_62, w105_63, w105_64, w105_66, w105_67, w105_71, w105_72, w105_75, w105_78, w105_81, w105_83, w105_84, w105_87, w105_89, w105_90, w105_93, w105_94, w105_97, w105_98, w105_99, w105_101, w105_102, w105_104, w105_105, w105_106, w105_107, w105_108, w105_111, w105_112, w105_115, w105_117, w105_118, w105_120, w105_121, w105_122, w105_124, w105_127, w105_130, w105_132, ks_0, kP, b4, i0, h1, nI_add, ↓reduceIte, Option.toList_some, Option.toList_none, List.cons_append, List.nil_append]
      exact ih
    · by_cases h3 : x = b
      · rw [if_neg (fun z => z.2.1 h3)] at ih
        subst h3
        simp only [w105_0, w105_1, w105_4, w105_5, w105_8, w105_11, w105_12, w105_15, w105_16, w105_19, w105_22, w105_23, w105_26, w105_27, w105_30, w105_33, w105_35, w105_36, w105_37, w105_40, w105_41, w105_44, w105_46, w105_47, w105_50, w105_51, w105_52, w105_54, w105_57, w105_58, w105_61, w105_62, w105_63, w105_64, w105_66, w105_67, w105_71, w105_72, w105_75, w105_78, w105_81, w105_83, w105_84, w105_87, w105_89, w105_90, w105_93, w105_94, w105_97, w105_98, w105_99, w105_101, w105_102, w105_104, w105_105, w105_106, w105_107, w105_108, w105_111, w105_112, w105_115, w105_117, w105_118, w105_120, w105_121, w105_122, w105_124, w105_127, w105_130, w105_132, ks_0, kP, b4, i0, h1, ea, h2, nI_add, ↓reduceIte, Option.toList_some, Option.toList_none, List.cons_append, List.nil_append]
        exact ih
      · by_cases h4 : sbN c a b (andn o (1 <<< x)) = none
        · rw [if_pos ⟨h2, h3, h4⟩] at ih
          simp only [w105_0, w105_1, w105_4, w105_5, w105_8, w105_11, w105_12, w105_15, w105_16, w105_19, w105_22, w105_23, w105_26, w105_27, w105_30, w105_33, w105_35, w105_36, w105_37, w105_40, w105_41, w105_44, w105_46, w105_47, w105_50, w105_51, w105_52, w105_54, w105_57, w105_58, w105_61, w105_62, w105_63, w105_64, w105_66, w105_67, w105_71, w105_72, w105_75, w105_78, w105_81, w105_83, w105_84, w105_87, w105_89, w105_90, w105_93, w105_94, w105_97, w105_98, w105_99, w105_101, w105_102, w105_104, w105_105, w105_106, w105_107, w105_108, w105_111, w105_112, w105_115, w105_117, w105_118, w105_120, w105_121, w105_122, w105_124, w105_127, w105_130, w105_132, ks_0, kP, b4, i0, h1, ea, h2, eb, h3, nI_shl 1 (show x < 32 by omega), nI_andn, c_streetsBetween hC hw ha hb, h4, oI, nI_or, nI_add, ↓reduceIte, Option.toList_some, Option.toList_none, List.cons_append, List.nil_append]
          exact ih
        · rw [if_neg (fun z => h4 z.2.2)] at ih
          have h5 : ¬ oI (sbN c a b (andn o (1 <<< x))) = -1 := oI_some (fun d hd => by have := sbN_lt hd; omega) h4
          simp only [w105_0, w105_1, w105_4, w105_5, w105_8, w105_11, w105_12, w105_15, w105_16, w105_19, w105_22, w105_23, w105_26, w105_27, w105_30, w105_33, w105_35, w105_36, w105_37, w105_40, w105_41, w105_44, w105_46, w105_47, w105_50, w105_51, w105_52, w105_54, w105_57, w105_58, w105_61, w105_62, w105_63, w105_64, w105_66, w105_67, w105_71, w105_72, w105_75, w105_78, w105_81, w105_83, w105_84, w105_87, w105_89, w105_90, w105_93, w105_94, w105_97, w105_98, w105_99, w105_101, w105_102, w105_104, w105_105, w105_106, w105_107, w105_108, w105_111, w105_112, w105_115, w105_117, w105_118, w105_120, w105_121, w105_122, w105_124, w105_127, w105_130, w105_132, ks_0, kP, b4, i0, h1, ea, h2, eb, h3, nI_shl 1 (show x < 32 by omega), nI_andn, c_streetsBetween hC hw ha hb, h5, nI_add, ↓reduceIte, Option.toList_some, Option.toList_none, List.cons_append, List.nil_append]
          exact ih
theorem l_mAll {g a b : Nat} (hM : MR σ) (hc : MC σ c) (hn : MN σ n) (hw : WC c) (hg : g < c 2) (ho : andn (n (6 + g)) (n 19) < 2 ^ 31) (ha : a < c 0) (hb : b < c 0) : ∀ (f x : Nat) (aw : Nat → Nat), x + f = c 0 → (∀ aw', Q (some (.int (nI (agN c a b (andn (n (6 + g)) (n 19)) (c 0))))) (aset σ aw')) → Wq none 192 56 [some (.ref (118 : Nat)), some (.int (nI g)), some (.int (nI a)), some (.int (nI b)), some (.int (nI (agN c a b (andn (n (6 + g)) (n 19)) x))), some (.int (nI 1)), some (.int (nI x))] [] (aset σ aw) Q := by
  obtain ⟨w0, w2, w3, w4, w5, w6, w7, w8, w9⟩ := id hw
  intro f
  induction f with
  | zero =>
    intro x aw hx hq
    obtain rfl : x = c 0 := by omega
    have hM2 := MR_a (aw := aw) hM
    have hc2 := MC_a (aw := aw) hc
    have m0 : aset σ aw 118 0 = (.ref (119 : Nat)) := hM2.1
    rw [w192_56]
    simp only [w192_0, w192_1, w192_2, w192_5, w192_8, w192_9, w192_10, w192_13, w192_16, w192_17, w192_18, w192_21, w192_24, w192_26, w192_27, w192_28, w192_30, w192_31, w192_32, w192_33, w192_36, w192_37, w192_38, w192_41, w192_43, w192_46, w192_47, w192_50, w192_51, w192_53, w192_54, w192_58, w192_59, w192_62, w192_63, w192_64, w192_67, w192_69, w192_72, w192_74, w192_76, w192_77, w192_80, w192_82, w192_83, w192_86, w192_87, w192_88, w192_89, w192_92, w192_93, w192_95, w192_96, w192_97, w192_98, w192_99, w192_100, w192_101, w192_104, w192_106, w192_109, w192_110, w192_112, w192_113, w192_116, w192_117, w192_118, w192_120, w192_123, w192_126, w192_128, ks_118, m0, kt_119, in_nI (show 0 < kl 119 by rw [kl_119]; omega) (by rw [kl_119]; omega), nI_clamp (show 0 < 2 ^ 31 by omega), hc2 0 (by omega), nI_le (Nat.le_refl (c 0)) (show c 0 < 2 ^ 31 by omega), ↓reduceIte, Option.toList_some, Option.toList_none, List.cons_append, List.nil_append]
    exact hq aw
  | succ f ih =>
    intro x aw hx hq
    have ih := fun aw => ih (x + 1) aw (by omega) hq
    have hM2 := MR_a (aw := aw) hM
    have hc2 := MC_a (aw := aw) hc
    have hn2 := MN_a (aw := aw) hn
    have m0 : aset σ aw 118 0 = (.ref (119 : Nat)) := hM2.1
    have h1 : ¬ nI (c 0) ≤ nI x := nI_ge (by omega) (by omega)
    have ea : nI x = nI a ↔ x = a := nI_eq (by omega) (by omega)
    have eb : nI x = nI b ↔ x = b := nI_eq (by omega) (by omega)
    have h0 : ∀ s, s ||| 0 = s := fun s => Nat.or_zero s
    rw [agS] at ih
    rw [w192_56]
    by_cases h2 : x = a
    · rw [if_neg (fun z => z.1 h2)] at ih
      subst h2
      simp only [w192_0, w192_1, w192_2, w192_5, w192_8, w192_9, w192_10, w192_13, w192_16, w192_17, w192_18, w192_21, w192_24, w192_26, w192_27, w192_28, w192_30, w192_31, w192_32, w192_33, w192_36, w192_37, w192_38, w192_41, w192_43, w192_46, w192_47, w192_50, w192_51, w192_53, w192_54, w192_58, w192_59, w192_62, w192_63, w192_64, w192_67, w192_69, w192_72, w192_74, w192_76, w192_77, w192_80, w192_82, w192_83, w192_86, w192_87, w192_88, w192_89, w192_92, w192_93, w192_95, w192_96, w192_97, w192_98, w192_99, w192_100, w192_101, w192_104, w192_106, w192_109, w192_110, w192_112, w192_113, w192_116, w192_117, w192_118, w192_120, w192_123, w192_126, w192_128, ks_118, m0, kt_119, in_nI (show 0 < kl 119 by rw [kl_119]; omega) (by rw [kl_119]; omega), nI_clamp (show 0 < 2 ^ 31 by omega), hc2 0 (by omega), h1, nI_ne1, nI_or, h0, nI_add, ↓reduceIte, Option.toList_some, Option.toList_none, List.cons_append, List.nil_append]
      exact ih aw
    · by_cases h3 : x = b
      · rw [if_neg (fun z => z.2.1 h3)] at ih
        subst h3
        simp only [w192_0, w192_1, w192_2, w192_5, w192_8, w192_9, w192_10, w192_13, w192_16, w192_17, w192_18, w192_21, w192_24, w192_26, w192_27, w192_28, w192_30, w192_31, w192_32, w192_33, w192_36, w192_37, w192_38, w192_41, w192_43, w192_46, w192_47, w192_50, w192_51, w192_53, w192_54, w192_58, w192_59, w192_62, w192_63, w192_64, w192_67, w192_69, w192_72, w192_74, w192_76, w192_77, w192_80, w192_82, w192_83, w192_86, w192_87, w192_88, w192_89, w192_92, w192_93, w192_95, w192_96, w192_97, w192_98, w192_99, w192_100, w192_101, w192_104, w192_106, w192_109, w192_110, w192_112, w192_113, w192_116, w192_117, w192_118, w192_120, w192_123, w192_126, w192_128, ks_118, m0, kt_119, in_nI (show 0 < kl 119 by rw [kl_119]; omega) (by rw [kl_119]; omega), nI_clamp (show 0 < 2 ^ 31 by omega), hc2 0 (by omega), h1, nI_ne1, ea, h2, nI_or, h0, nI_add, ↓reduceIte, Option.toList_some, Option.toList_none, List.cons_append, List.nil_append]
        exact ih aw
      · have h31 : andn (andn (n (6 + g)) (n 19)) (1 <<< x) < 2 ^ 31 := andn_lt ho
        by_cases h4 : sbN c a b (andn (andn (n (6 + g)) (n 19)) (1 <<< x)) = none
        · rw [if_pos ⟨h2, h3, h4⟩] at ih
          have hl := lay_fn hw ha hb h4
          simp only [w192_0, w192_1, w192_2, w192_5, w192_8, w192_9, w192_10, w192_13, w192_16, w192_17, w192_18, w192_21, w192_24, w192_26, w192_27, w192_28, w192_30, w192_31, w192_32, w192_33, w192_36, w192_37, w192_38, w192_41, w192_43, w192_46, w192_47, w192_50, w192_51, w192_53, w192_54, w192_58, w192_59, w192_62, w192_63, w192_64, w192_67, w192_69, w192_72, w192_74, w192_76, w192_77, w192_80, w192_82, w192_83, w192_86, w192_87, w192_88, w192_89, w192_92, w192_93, w192_95, w192_96, w192_97, w192_98, w192_99, w192_100, w192_101, w192_104, w192_106, w192_109, w192_110, w192_112, w192_113, w192_116, w192_117, w192_118, w192_120, w192_123, w192_126, w192_128, ks_118, m0, kt_119, in_nI (show 0 < kl 119 by rw [kl_119]; omega) (by rw [kl_119]; omega), nI_clamp (show 0 < 2 ^ 31 by omega), hc2 0 (by omega), h1, nI_ne1, ea, h2, eb, h3, c_open hM2 hn2 (show g < 6 by omega), nI_shl 1 (show x < 32 by omega), nI_andn, c_lengthA hM hc hw h31 (show b < 2 ^ 31 by omega) (show a < 8 by omega), hl, (by decide : ¬ nI 100000000 < nI 100000000), nI_or, nI_add, ↓reduceIte, Option.toList_some, Option.toList_none, List.cons_append, List.nil_append]
          exact ih _
        · rw [if_neg (fun z => h4 z.2.2)] at ih
          cases hs : sbN c a b (andn (andn (n (6 + g)) (n 19)) (1 <<< x)) with
          | none => exact absurd hs h4
          | some d =>
            obtain ⟨e1, e2, e3⟩ := lay_fs hw ha hb hs
            simp only [w192_0, w192_1, w192_2, w192_5, w192_8, w192_9, w192_10, w192_13, w192_16, w192_17, w192_18, w192_21, w192_24, w192_26, w192_27, w192_28, w192_30, w192_31, w192_32, w192_33, w192_36, w192_37, w192_38, w192_41, w192_43, w192_46, w192_47, w192_50, w192_51, w192_53, w192_54, w192_58, w192_59, w192_62, w192_63, w192_64, w192_67, w192_69, w192_72, w192_74, w192_76, w192_77, w192_80, w192_82, w192_83, w192_86, w192_87, w192_88, w192_89, w192_92, w192_93, w192_95, w192_96, w192_97, w192_98, w192_99, w192_100, w192_101, w192_104, w192_106, w192_109, w192_110, w192_112, w192_113, w192_116, w192_117, w192_118, w192_120, w192_123, w192_126, w192_128, ks_118, m0, kt_119, in_nI (show 0 < kl 119 by rw [kl_119]; omega) (by rw [kl_119]; omega), nI_clamp (show 0 < 2 ^ 31 by omega), hc2 0 (by omega), h1, nI_ne1, ea, h2, eb, h3, c_open hM2 hn2 (show g < 6 by omega), nI_shl 1 (show x < 32 by omega), nI_andn, c_lengthA hM hc hw h31 (show b < 2 ^ 31 by omega) (show a < 8 by omega), e1, e2, nI_or, h0, nI_add, ↓reduceIte, Option.toList_some, Option.toList_none, List.cons_append, List.nil_append]
            exact ih _
theorem pr_allGoBy (x y z : Int32) (hI : Inv σ) : Pr Inv 105 192 [.int x, .int y, .int z] σ := by
  obtain ⟨c, n, k, p, q, im, h, hs, ht, m, bg, bx, L, tx, f, s, hWA, hCA, hMA⟩ := id hI; obtain ⟨hw, hwn, ⟨hk16, hkp⟩, ⟨hq4, hqi⟩, ⟨hh9, hhs, hht⟩, ⟨hm15, hmb⟩, ⟨hL240, htx⟩, hs31⟩ := id hWA; obtain ⟨⟨P, D, hPD, hB, hC, hD⟩, hN, hPa, hIm, hHe, hBk, hTx, hF, hS, hSc⟩ := id hCA; obtain ⟨hM, hc, hn, hmP, hmI, hmH, hmB, hmT, hmF, hmS⟩ := id hMA
  obtain ⟨b0, b3, b4, b5, b6, b7, b8, b9, b10, b11, b12⟩ := id hB
  obtain ⟨w0, w2, w3, w4, w5, w6, w7, w8, w9⟩ := id hw
  obtain ⟨m0, m1, m2, m3, m5, m6, m8, m11, m12, m14, m22, m23, m24, m25, m29, m30, m31, m32⟩ := id hM
  obtain ⟨⟨kP, ⟨t1, l1⟩, ⟨t2, l2⟩, ⟨t3, l3⟩, ⟨t4, l4⟩, ⟨t5, l5⟩, ⟨t6, l6⟩, ⟨t7, l7⟩, ⟨t8, l8⟩, ⟨t9, l9⟩⟩, ⟨r1, r2, r3, r4, r5, r6, r7, r8, r9⟩, ⟨i0, i2, i3, i4⟩, f1, f2, f3, f4, f5, f6, f7⟩ := id hC
  obtain ⟨⟨kS, ⟨u1, v1⟩, ⟨u2, v2⟩, ⟨u3, v3⟩⟩, ⟨q0, q1, q2⟩, ⟨j3, j4, j5, j6⟩, jf⟩ := id hN
  rcases ix_cs x (show c 2 < 2 ^ 31 by omega) with ⟨g, hg, rfl⟩ | ⟨hx, hx2⟩
  · rcases ix_cs y (show c 0 < 2 ^ 31 by omega) with ⟨a, ha, rfl⟩ | ⟨hy, hy2⟩
    · rcases ix_cs z (show c 0 < 2 ^ 31 by omega) with ⟨b, hb, rfl⟩ | ⟨hz, hz2⟩
      · have ho := andn_lt31 hw hwn hg
        refine pr_ex (Er_ex ?_)
        show Wq none 105 0 [some (.ref (0 : Nat)), some (.int (nI g)), some (.int (nI a)), some (.int (nI b)), none, none, none] [] σ _
        cases hs : sbN c a b (andn (n (6 + g)) (n 19)) with
        | none =>
          have hl := lay_fn hw ha hb hs
          simp only [w105_0, w105_1, w105_4, w105_5, w105_8, w105_11, w105_12, w105_15, w105_16, w105_19, w105_22, w105_23, w105_26, w105_27, w105_30, w105_33, w105_35, w105_36, w105_37, w105_40, w105_41, w105_44, w105_46, w105_47, w105_50, w105_51, w105_52, w105_54, w105_57, w105_58, w105_61, w105_62, w105_63, w105_64, w105_66, w105_67, w105_71, w105_72, w105_75, w105_78, w105_81, w105_83, w105_84, w105_87, w105_89, w105_90, w105_93, w105_94, w105_97, w105_98, w105_99, w105_101, w105_102, w105_104, w105_105, w105_106, w105_107, w105_108, w105_111, w105_112, w105_115, w105_117, w105_118, w105_120, w105_121, w105_122, w105_124, w105_127, w105_130, w105_132, ks_0, ks_24, kP, b4, b6, c_hasGuide hC hg hw, c_hasCrossing hC ha hw, c_hasCrossing hC hb hw, nI_ne1, c_openTo hN w2 hg, c_streetsBetween hC hw ha hb, hs, oI, ↓reduceIte, Option.toList_some, Option.toList_none, List.cons_append, List.nil_append]
          refine ⟨_, rfl, Er_ex ?_⟩
          show Wq none 192 0 [some (.ref (118 : Nat)), some (.int (nI g)), some (.int (nI a)), some (.int (nI b)), none, none, none] [] σ _
          have m02 : aset σ (lay c (andn (n (6 + g)) (n 19)) b) 118 0 = (.ref (119 : Nat)) := (MR_a hM).1
          have hc2 := MC_a (aw := lay c (andn (n (6 + g)) (n 19)) b) hc
          have h1 : ¬ nI (c 0) ≤ nI 0 := nI_ge (by omega) (by omega)
          simp only [w192_0, w192_1, w192_2, w192_5, w192_8, w192_9, w192_10, w192_13, w192_16, w192_17, w192_18, w192_21, w192_24, w192_26, w192_27, w192_28, w192_30, w192_31, w192_32, w192_33, w192_36, w192_37, w192_38, w192_41, w192_43, w192_46, w192_47, w192_50, w192_51, w192_53, w192_54, w192_56, w192_58, w192_59, w192_62, w192_63, w192_64, w192_67, w192_69, w192_72, w192_74, w192_76, w192_77, w192_80, w192_82, w192_83, w192_86, w192_87, w192_88, w192_89, w192_92, w192_93, w192_95, w192_96, w192_97, w192_98, w192_99, w192_100, w192_101, w192_104, w192_106, w192_109, w192_110, w192_112, w192_113, w192_116, w192_117, w192_118, w192_120, w192_123, w192_126, w192_128, ks_118, c_isGuide (x := nI g) hM hc hw ⟨g, hg, rfl⟩, c_isCrossing (x := nI a) hM hc hw ⟨a, ha, rfl⟩, c_isCrossing (x := nI b) hM hc hw ⟨b, hb, rfl⟩, nI_ne1, c_open hM hn (show g < 6 by omega), c_length hM hc hw ho (show b < 2 ^ 31 by omega) (show a < 8 by omega), hl, (by decide : nI 100000000 ≤ nI 100000000), m02, kt_119, in_nI (show 0 < kl 119 by rw [kl_119]; omega) (by rw [kl_119]; omega), nI_clamp (show 0 < 2 ^ 31 by omega), hc2 0 (by omega), h1, ↓reduceIte, Option.toList_some, Option.toList_none, List.cons_append, List.nil_append]
          exact ⟨trivial, inv_aset hI⟩
        | some d =>
          obtain ⟨e1, e2, e3⟩ := lay_fs hw ha hb hs
          have hd : d < 2 ^ 31 := by have := sbN_lt hs; omega
          have hm1 : ¬ nI d = -1 := fun q => nI_m1 hd q.symm
          simp only [w105_0, w105_1, w105_4, w105_5, w105_8, w105_11, w105_12, w105_15, w105_16, w105_19, w105_22, w105_23, w105_26, w105_27, w105_30, w105_33, w105_35, w105_36, w105_37, w105_40, w105_41, w105_44, w105_46, w105_47, w105_50, w105_51, w105_52, w105_54, w105_57, w105_58, w105_61, w105_62, w105_63, w105_64, w105_66, w105_67, w105_71, w105_72, w105_75, w105_78, w105_81, w105_83, w105_84, w105_87, w105_89, w105_90, w105_93, w105_94, w105_97, w105_98, w105_99, w105_101, w105_102, w105_104, w105_105, w105_106, w105_107, w105_108, w105_111, w105_112, w105_115, w105_117, w105_118, w105_120, w105_121, w105_122, w105_124, w105_127, w105_130, w105_132, ks_0, ks_24, kP, b4, b6, c_hasGuide hC hg hw, c_hasCrossing hC ha hw, c_hasCrossing hC hb hw, nI_ne1, c_openTo hN w2 hg, c_streetsBetween hC hw ha hb, hs, oI, hm1, ↓reduceIte, Option.toList_some, Option.toList_none, List.cons_append, List.nil_append]
          refine l_cAll hB hC hw ha hb (c 0) 0 (by omega) ?_
          refine ⟨_, rfl, Er_ex ?_⟩
          show Wq none 192 0 [some (.ref (118 : Nat)), some (.int (nI g)), some (.int (nI a)), some (.int (nI b)), none, none, none] [] σ _
          simp only [w192_0, w192_1, w192_2, w192_5, w192_8, w192_9, w192_10, w192_13, w192_16, w192_17, w192_18, w192_21, w192_24, w192_26, w192_27, w192_28, w192_30, w192_31, w192_32, w192_33, w192_36, w192_37, w192_38, w192_41, w192_43, w192_46, w192_47, w192_50, w192_51, w192_53, w192_54, w192_58, w192_59, w192_62, w192_63, w192_64, w192_67, w192_69, w192_72, w192_74, w192_76, w192_77, w192_80, w192_82, w192_83, w192_86, w192_87, w192_88, w192_89, w192_92, w192_93, w192_95, w192_96, w192_97, w192_98, w192_99, w192_100, w192_101, w192_104, w192_106, w192_109, w192_110, w192_112, w192_113, w192_116, w192_117, w192_118, w192_120, w192_123, w192_126, w192_128, ks_118, c_isGuide (x := nI g) hM hc hw ⟨g, hg, rfl⟩, c_isCrossing (x := nI a) hM hc hw ⟨a, ha, rfl⟩, c_isCrossing (x := nI b) hM hc hw ⟨b, hb, rfl⟩, nI_ne1, c_open hM hn (show g < 6 by omega), c_length hM hc hw ho (show b < 2 ^ 31 by omega) (show a < 8 by omega), e1, e3, ↓reduceIte, Option.toList_some, Option.toList_none, List.cons_append, List.nil_append]
          exact l_mAll hM hc hn hw hg ho ha hb (c 0) 0 _ (by omega) (fun aw' => ⟨rfl, inv_aset hI⟩)
      · refine pr_of (v := -1000000001) (σ1 := σ) (σ2 := σ) (fun Q => Cq_of (Er_of ?_)) (fun Q => Cq_of (Er_of ?_)) hI
        · show Wq none 105 0 [some (.ref (0 : Nat)), some (.int (nI g)), some (.int (nI a)), some (.int z), none, none, none] [] σ _
          simp only [w105_0, w105_1, w105_4, w105_5, w105_8, w105_11, w105_12, w105_15, w105_16, w105_19, w105_22, w105_23, w105_26, w105_27, w105_30, w105_33, w105_35, w105_36, w105_37, w105_40, w105_41, w105_44, w105_46, w105_47, w105_50, w105_51, w105_52, w105_54, w105_57, w105_58, w105_61, w105_62, w105_63, w105_64, w105_66, w105_67, w105_71, w105_72, w105_75, w105_78, w105_81, w105_83, w105_84, w105_87, w105_89, w105_90, w105_93, w105_94, w105_97, w105_98, w105_99, w105_101, w105_102, w105_104, w105_105, w105_106, w105_107, w105_108, w105_111, w105_112, w105_115, w105_117, w105_118, w105_120, w105_121, w105_122, w105_124, w105_127, w105_130, w105_132, ks_0, kP, b4, c_hasGuide hC hg hw, c_hasCrossing hC ha hw, c_hasCrossing_f hC hz, nI_ne1, ↓reduceIte, Option.toList_some, Option.toList_none, List.cons_append, List.nil_append, and_self]
        · show Wq none 192 0 [some (.ref (118 : Nat)), some (.int (nI g)), some (.int (nI a)), some (.int z), none, none, none] [] σ _
          simp only [w192_0, w192_1, w192_2, w192_5, w192_8, w192_9, w192_10, w192_13, w192_16, w192_17, w192_18, w192_21, w192_24, w192_26, w192_27, w192_28, w192_30, w192_31, w192_32, w192_33, w192_36, w192_37, w192_38, w192_41, w192_43, w192_46, w192_47, w192_50, w192_51, w192_53, w192_54, w192_58, w192_59, w192_62, w192_63, w192_64, w192_67, w192_69, w192_72, w192_74, w192_76, w192_77, w192_80, w192_82, w192_83, w192_86, w192_87, w192_88, w192_89, w192_92, w192_93, w192_95, w192_96, w192_97, w192_98, w192_99, w192_100, w192_101, w192_104, w192_106, w192_109, w192_110, w192_112, w192_113, w192_116, w192_117, w192_118, w192_120, w192_123, w192_126, w192_128, ks_118, c_isGuide (x := nI g) hM hc hw ⟨g, hg, rfl⟩, c_isCrossing (x := nI a) hM hc hw ⟨a, ha, rfl⟩, c_isCrossing_f hM hc hw hz2, nI_ne1, ↓reduceIte, Option.toList_some, Option.toList_none, List.cons_append, List.nil_append, and_self]
    · refine pr_of (v := -1000000001) (σ1 := σ) (σ2 := σ) (fun Q => Cq_of (Er_of ?_)) (fun Q => Cq_of (Er_of ?_)) hI
      · show Wq none 105 0 [some (.ref (0 : Nat)), some (.int (nI g)), some (.int y), some (.int z), none, none, none] [] σ _
        simp only [w105_0, w105_1, w105_4, w105_5, w105_8, w105_11, w105_12, w105_15, w105_16, w105_19, w105_22, w105_23, w105_26, w105_27, w105_30, w105_33, w105_35, w105_36, w105_37, w105_40, w105_41, w105_44, w105_46, w105_47, w105_50, w105_51, w105_52, w105_54, w105_57, w105_58, w105_61, w105_62, w105_63, w105_64, w105_66, w105_67, w105_71, w105_72, w105_75, w105_78, w105_81, w105_83, w105_84, w105_87, w105_89, w105_90, w105_93, w105_94, w105_97, w105_98, w105_99, w105_101, w105_102, w105_104, w105_105, w105_106, w105_107, w105_108, w105_111, w105_112, w105_115, w105_117, w105_118, w105_120, w105_121, w105_122, w105_124, w105_127, w105_130, w105_132, ks_0, kP, b4, c_hasGuide hC hg hw, c_hasCrossing_f hC hy, nI_ne1, ↓reduceIte, Option.toList_some, Option.toList_none, List.cons_append, List.nil_append, and_self]
      · show Wq none 192 0 [some (.ref (118 : Nat)), some (.int (nI g)), some (.int y), some (.int z), none, none, none] [] σ _
        simp only [w192_0, w192_1, w192_2, w192_5, w192_8, w192_9, w192_10, w192_13, w192_16, w192_17, w192_18, w192_21, w192_24, w192_26, w192_27, w192_28, w192_30, w192_31, w192_32, w192_33, w192_36, w192_37, w192_38, w192_41, w192_43, w192_46, w192_47, w192_50, w192_51, w192_53, w192_54, w192_58, w192_59, w192_62, w192_63, w192_64, w192_67, w192_69, w192_72, w192_74, w192_76, w192_77, w192_80, w192_82, w192_83, w192_86, w192_87, w192_88, w192_89, w192_92, w192_93, w192_95, w192_96, w192_97, w192_98, w192_99, w192_100, w192_101, w192_104, w192_106, w192_109, w192_110, w192_112, w192_113, w192_116, w192_117, w192_118, w192_120, w192_123, w192_126, w192_128, ks_118, c_isGuide (x := nI g) hM hc hw ⟨g, hg, rfl⟩, c_isCrossing_f hM hc hw hy2, nI_ne1, ↓reduceIte, Option.toList_some, Option.toList_none, List.cons_append, List.nil_append, and_self]
  · refine pr_of (v := -1000000001) (σ1 := σ) (σ2 := σ) (fun Q => Cq_of (Er_of ?_)) (fun Q => Cq_of (Er_of ?_)) hI
    · show Wq none 105 0 [some (.ref (0 : Nat)), some (.int x), some (.int y), some (.int z), none, none, none] [] σ _
      simp only [w105_0, w105_1, w105_4, w105_5, w105_8, w105_11, w105_12, w105_15, w105_16, w105_19, w105_22, w105_23, w105_26, w105_27, w105_30, w105_33, w105_35, w105_36, w105_37, w105_40, w105_41, w105_44, w105_46, w105_47, w105_50, w105_51, w105_52, w105_54, w105_57, w105_58, w105_61, w105_62, w105_63, w105_64, w105_66, w105_67, w105_71, w105_72, w105_75, w105_78, w105_81, w105_83, w105_84, w105_87, w105_89, w105_90, w105_93, w105_94, w105_97, w105_98, w105_99, w105_101, w105_102, w105_104, w105_105, w105_106, w105_107, w105_108, w105_111, w105_112, w105_115, w105_117, w105_118, w105_120, w105_121, w105_122, w105_124, w105_127, w105_130, w105_132, ks_0, kP, b4, c_hasGuide_f hC hx, nI_ne1, ↓reduceIte, Option.toList_some, Option.toList_none, List.cons_append, List.nil_append, and_self]
    · show Wq none 192 0 [some (.ref (118 : Nat)), some (.int x), some (.int y), some (.int z), none, none, none] [] σ _
      simp only [w192_0, w192_1, w192_2, w192_5, w192_8, w192_9, w192_10, w192_13, w192_16, w192_17, w192_18, w192_21, w192_24, w192_26, w192_27, w192_28, w192_30, w192_31, w192_32, w192_33, w192_36, w192_37, w192_38, w192_41, w192_43, w192_46, w192_47, w192_50, w192_51, w192_53, w192_54, w192_58, w192_59, w192_62, w192_63, w192_64, w192_67, w192_69, w192_72, w192_74, w192_76, w192_77, w192_80, w192_82, w192_83, w192_86, w192_87, w192_88, w192_89, w192_92, w192_93, w192_95, w192_96, w192_97, w192_98, w192_99, w192_100, w192_101, w192_104, w192_106, w192_109, w192_110, w192_112, w192_113, w192_116, w192_117, w192_118, w192_120, w192_123, w192_126, w192_128, ks_118, c_isGuide_f hM hc hw hx2, nI_ne1, ↓reduceIte, Option.toList_some, Option.toList_none, List.cons_append, List.nil_append, and_self]
-- clouds
def clN (q : Int64) : Nat → Int64 → Int64 := fun k u => match k with
  | 0 => u
  | k + 1 => clN q k (u * q / lN 100)
theorem l_cCl {q : Int32} {d : Nat} (hd : d < 2 ^ 31) : ∀ (f i : Nat) (u : Int64), i + f = d → Wq none 107 30 [some (.ref (0 : Nat)), some (.int (nI d)), some (.int q), some (.long u), none, some (.int (nI i))] [] σ Q = Q (some (.int (clN q.toInt64 f u).toInt32)) σ := by
  intro f
  induction f with
  | zero =>
    intro i u hi
    obtain rfl : i = d := by omega
    rw [w107_30]
    simp only [w107_0, w107_1, w107_4, w107_5, w107_7, w107_10, w107_11, w107_14, w107_15, w107_17, w107_20, w107_22, w107_23, w107_26, w107_27, w107_28, w107_32, w107_33, w107_36, w107_37, w107_38, w107_39, w107_40, w107_43, w107_44, w107_45, w107_48, w107_51, w107_52, w107_53, nI_le (Nat.le_refl i) hd, ↓reduceIte, Option.toList_some, Option.toList_none, List.cons_append, List.nil_append]
    rfl
  | succ f ih =>
    intro i u hi
    have h1 : ¬ nI d ≤ nI i := nI_ge (by omega) hd
    rw [w107_30]
    simp only [w107_0, w107_1, w107_4, w107_5, w107_7, w107_10, w107_11, w107_14, w107_15, w107_17, w107_20, w107_22, w107_23, w107_26, w107_27, w107_28, w107_32, w107_33, w107_36, w107_37, w107_38, w107_39, w107_40, w107_43, w107_44, w107_45, w107_48, w107_51, w107_52, w107_53, h1, (by decide : ¬ lN 100 = 0), not_false_eq_true, nI_add, ↓reduceIte, Option.toList_some, Option.toList_none, List.cons_append, List.nil_append]
    exact ih (i + 1) _ (by omega)
theorem l_mCl {q : Int32} {d : Nat} (hd : d < 2 ^ 31) : ∀ (f i : Nat) (u : Int64), i + f = d → Wq none 194 34 [some (.ref (118 : Nat)), some (.int (nI d)), some (.int q), some (.long u), none, some (.int (nI i))] [] σ Q = Q (some (.int (clN q.toInt64 f u).toInt32)) σ := by
  intro f
  induction f with
  | zero =>
    intro i u hi
    obtain rfl : i = d := by omega
    rw [w194_34]
    simp only [w194_0, w194_1, w194_2, w194_3, w194_6, w194_9, w194_12, w194_13, w194_14, w194_15, w194_18, w194_21, w194_24, w194_26, w194_27, w194_30, w194_31, w194_32, w194_36, w194_37, w194_40, w194_41, w194_42, w194_43, w194_44, w194_47, w194_48, w194_49, w194_52, w194_55, w194_56, w194_57, nI_le (Nat.le_refl i) hd, ↓reduceIte, Option.toList_some, Option.toList_none, List.cons_append, List.nil_append]
    rfl
  | succ f ih =>
    intro i u hi
    have h1 : ¬ nI d ≤ nI i := nI_ge (by omega) hd
    rw [w194_34]
    simp only [w194_0, w194_1, w194_2, w194_3, w194_6, w194_9, w194_12, w194_13, w194_14, w194_15, w194_18, w194_21, w194_24, w194_26, w194_27, w194_30, w194_31, w194_32, w194_36, w194_37, w194_40, w194_41, w194_42, w194_43, w194_44, w194_47, w194_48, w194_49, w194_52, w194_55, w194_56, w194_57, h1, (by decide : ¬ lN 100 = 0), not_false_eq_true, nI_add, ↓reduceIte, Option.toList_some, Option.toList_none, List.cons_append, List.nil_append]
    exact ih (i + 1) _ (by omega)
theorem pr_clouds (x y : Int32) (hI : Inv σ) : Pr Inv 107 194 [.int x, .int y] σ := by
  rcases ix_cs x (show 61 < 2 ^ 31 by omega) with ⟨d, hd, rfl⟩ | ⟨hx, hx2⟩
  · have hd0 : ¬ nI d < nI 0 := nI_pos (by omega)
    have hd6 : ¬ nI 60 < nI d := nI_nlt (by omega) (by omega)
    have hin : lN 0 ≤ (nI d).toInt64 ∧ (nI d).toInt64 ≤ lN 60 := (in_ok2 (x := nI d) (show 60 < 2 ^ 30 by omega) (show 0 < 2 ^ 30 by omega)).mpr ⟨d, by omega, by omega, rfl⟩
    rcases ix_cs y (show 101 < 2 ^ 31 by omega) with ⟨q, hq, rfl⟩ | ⟨hy, hy2⟩
    · have hq0 : ¬ nI q < nI 0 := nI_pos (by omega)
      have hq6 : nI q ≤ nI 100 := nI_le (by omega) (by omega)
      have hin2 : lN 0 ≤ (nI q).toInt64 ∧ (nI q).toInt64 ≤ lN 100 := (in_ok2 (x := nI q) (show 100 < 2 ^ 30 by omega) (show 0 < 2 ^ 30 by omega)).mpr ⟨q, by omega, by omega, rfl⟩
      refine pr_of (v := (clN (nI q).toInt64 d (lN 1000000000)).toInt32) (σ1 := σ) (σ2 := σ) (fun Q => Cq_of (Er_of ?_)) (fun Q => Cq_of (Er_of ?_)) hI
      · show Wq none 107 0 [some (.ref (0 : Nat)), some (.int (nI d)), some (.int (nI q)), none, none, none] [] σ _
        simp only [w107_0, w107_1, w107_4, w107_5, w107_7, w107_10, w107_11, w107_14, w107_15, w107_17, w107_20, w107_22, w107_23, w107_26, w107_27, w107_28, w107_32, w107_33, w107_36, w107_37, w107_38, w107_39, w107_40, w107_43, w107_44, w107_45, w107_48, w107_51, w107_52, w107_53, hd0, hd6, hq0, hq6, l_cCl (show d < 2 ^ 31 by omega) d 0 _ (Nat.zero_add _), ↓reduceIte, Option.toList_some, Option.toList_none, List.cons_append, List.nil_append, and_self]
      · show Wq none 194 0 [some (.ref (118 : Nat)), some (.int (nI d)), some (.int (nI q)), none, none, none] [] σ _
        simp only [w194_0, w194_1, w194_2, w194_3, w194_6, w194_9, w194_12, w194_13, w194_14, w194_15, w194_18, w194_21, w194_24, w194_26, w194_27, w194_30, w194_31, w194_32, w194_36, w194_37, w194_40, w194_41, w194_42, w194_43, w194_44, w194_47, w194_48, w194_49, w194_52, w194_55, w194_56, w194_57, c_in, hin, hin2, nI_ne1, l_mCl (show d < 2 ^ 31 by omega) d 0 _ (Nat.zero_add _), ↓reduceIte, Option.toList_some, Option.toList_none, List.cons_append, List.nil_append, and_self]
    · have hin2 : ¬ (lN 0 ≤ y.toInt64 ∧ y.toInt64 ≤ lN 100) := fun q => by
        obtain ⟨j, -, h4, rfl⟩ := (in_ok2 (x := y) (show 100 < 2 ^ 30 by omega) (show 0 < 2 ^ 30 by omega)).mp q
        exact hy2 ⟨j, by omega, rfl⟩
      refine pr_of (v := -1000000002) (σ1 := σ) (σ2 := σ) (fun Q => Cq_of (Er_of ?_)) (fun Q => Cq_of (Er_of ?_)) hI
      · show Wq none 107 0 [some (.ref (0 : Nat)), some (.int (nI d)), some (.int y), none, none, none] [] σ _
        by_cases h0 : y < nI 0
        · simp only [w107_0, w107_1, w107_4, w107_5, w107_7, w107_10, w107_11, w107_14, w107_15, w107_17, w107_20, w107_22, w107_23, w107_26, w107_27, w107_28, w107_32, w107_33, w107_36, w107_37, w107_38, w107_39, w107_40, w107_43, w107_44, w107_45, w107_48, w107_51, w107_52, w107_53, hd0, hd6, h0, ↓reduceIte, Option.toList_some, Option.toList_none, List.cons_append, List.nil_append, and_self]
        · have h2 : ¬ y ≤ nI 100 := fun q => by
            have h3 := hy.resolve_left h0
            rw [Int32.le_iff_toInt_le, nI_toInt (by omega)] at h3 q
            omega
          simp only [w107_0, w107_1, w107_4, w107_5, w107_7, w107_10, w107_11, w107_14, w107_15, w107_17, w107_20, w107_22, w107_23, w107_26, w107_27, w107_28, w107_32, w107_33, w107_36, w107_37, w107_38, w107_39, w107_40, w107_43, w107_44, w107_45, w107_48, w107_51, w107_52, w107_53, hd0, hd6, h0, h2, ↓reduceIte, Option.toList_some, Option.toList_none, List.cons_append, List.nil_append, and_self]
      · show Wq none 194 0 [some (.ref (118 : Nat)), some (.int (nI d)), some (.int y), none, none, none] [] σ _
        simp only [w194_0, w194_1, w194_2, w194_3, w194_6, w194_9, w194_12, w194_13, w194_14, w194_15, w194_18, w194_21, w194_24, w194_26, w194_27, w194_30, w194_31, w194_32, w194_36, w194_37, w194_40, w194_41, w194_42, w194_43, w194_44, w194_47, w194_48, w194_49, w194_52, w194_55, w194_56, w194_57, c_in, hin, hin2, nI_ne1, ↓reduceIte, Option.toList_some, Option.toList_none, List.cons_append, List.nil_append, and_self]
  · have hin : ¬ (lN 0 ≤ x.toInt64 ∧ x.toInt64 ≤ lN 60) := fun q => by
      obtain ⟨j, -, h4, rfl⟩ := (in_ok2 (x := x) (show 60 < 2 ^ 30 by omega) (show 0 < 2 ^ 30 by omega)).mp q
      exact hx2 ⟨j, by omega, rfl⟩
    refine pr_of (v := -1000000002) (σ1 := σ) (σ2 := σ) (fun Q => Cq_of (Er_of ?_)) (fun Q => Cq_of (Er_of ?_)) hI
    · show Wq none 107 0 [some (.ref (0 : Nat)), some (.int x), some (.int y), none, none, none] [] σ _
      by_cases h0 : x < nI 0
      · simp only [w107_0, w107_1, w107_4, w107_5, w107_7, w107_10, w107_11, w107_14, w107_15, w107_17, w107_20, w107_22, w107_23, w107_26, w107_27, w107_28, w107_32, w107_33, w107_36, w107_37, w107_38, w107_39, w107_40, w107_43, w107_44, w107_45, w107_48, w107_51, w107_52, w107_53, h0, ↓reduceIte, Option.toList_some, Option.toList_none, List.cons_append, List.nil_append, and_self]
      · have h2 : nI 60 < x := by
          have h3 := hx.resolve_left h0
          rw [Int32.le_iff_toInt_le, nI_toInt (by omega)] at h3
          rw [Int32.lt_iff_toInt_lt, nI_toInt (by omega)]
          omega
        simp only [w107_0, w107_1, w107_4, w107_5, w107_7, w107_10, w107_11, w107_14, w107_15, w107_17, w107_20, w107_22, w107_23, w107_26, w107_27, w107_28, w107_32, w107_33, w107_36, w107_37, w107_38, w107_39, w107_40, w107_43, w107_44, w107_45, w107_48, w107_51, w107_52, w107_53, h0, h2, ↓reduceIte, Option.toList_some, Option.toList_none, List.cons_append, List.nil_append, and_self]
    · show Wq none 194 0 [some (.ref (118 : Nat)), some (.int x), some (.int y), none, none, none] [] σ _
      simp only [w194_0, w194_1, w194_2, w194_3, w194_6, w194_9, w194_12, w194_13, w194_14, w194_15, w194_18, w194_21, w194_24, w194_26, w194_27, w194_30, w194_31, w194_32, w194_36, w194_37, w194_40, w194_41, w194_42, w194_43, w194_44, w194_47, w194_48, w194_49, w194_52, w194_55, w194_56, w194_57, c_in, hin, ↓reduceIte, Option.toList_some, Option.toList_none, List.cons_append, List.nil_append, and_self]
end RG
