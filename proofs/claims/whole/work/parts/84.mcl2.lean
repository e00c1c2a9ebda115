/-! the text: the reference's clauses g and e -/
section ML
variable {L : Nat} {tx : Nat → Nat} {ρ : dm_G} {fg vl : Nat} {sg : Int32} {rd : Nat → Nat}
theorem kN_m {l m m' q : Nat} (h : m' ≤ m) (hk : ¬ kN L tx l m q = 0) : kN L tx l m' q = kN L tx l m q := by
  unfold kN at hk ⊢
  by_cases z : nuE L tx q = skB L tx q
  · rw [if_pos z, if_pos z]
  · rw [if_neg z] at hk ⊢
    rw [if_neg z]
    by_cases y : 3 < nuE L tx q - skB L tx q ∨ nuV L tx q < l ∨ m < nuV L tx q
    · rw [if_pos y, if_pos (by omega)]
    · rw [if_neg y] at hk
      exact absurd rfl hk
theorem gi_u {i j : Nat} {v : Int32} (h : ¬ i = j) : gi (dm_up ρ 120 j (.int v)) 120 i = gi ρ 120 i := by rw [gi_up, if_neg (fun z => h z.2)]
theorem gi_uy {j : Nat} {v : Int32} : gi (dm_up ρ 120 j (.int v)) 120 j = v := by rw [gi_up, if_pos ⟨rfl, rfl⟩]
theorem m_readG {p : Nat} (hT : mTX L tx ρ) (hR : RD ρ rd) (hp : p ≤ 240) (h0 : rd 0 ≤ 8) (hp0 : 0 < rd 0) (h2 : rd 2 ≤ 6) : ∃ v τ, Er 140 [(.ref (118 : Nat))] (mS ρ (p + 1) p sg fg vl) (some (.int v)) τ ∧ MPo ρ (tG L tx rd p) v τ := by
  have hL := hT.1
  have hpw : 2 ^ rd 0 ≤ 2 ^ 8 := Nat.pow_le_pow_right (by omega) h0
  have hpw1 : 0 < 2 ^ rd 0 := Nat.two_pow_pos _
  have a1 : ∀ a b sg fg vl, mS ρ a b sg fg vl 118 1 = (.ref (120 : Nat)) := fun a b sg fg vl => (mS_o (by omega)).trans hT.2.2.2.2.1
  have g0 : gi ρ 120 0 = nI (rd 0) := hR 0 (by omega)
  have g2 : gi ρ 120 2 = nI (rd 2) := hR 2 (by omega)
  have es : nI (rd 0) - nI 1 = nI (rd 0 - 1) := pk_sub (by omega)
  have e : nI (rd 2) = nI 6 ↔ rd 2 = 6 := nI_eq (by omega) (by omega)
  have g00 : gi (dm_up ρ 120 2 (.int (nI (rd 2 + 1)))) 120 0 = nI (rd 0) := (gi_u (by omega)).trans g0
  by_cases hx : rd 2 < 6
  · have hx' : ¬ rd 2 = 6 := by omega
    have hz : decide (rd 2 < 6) = true := decide_eq_true hx
    have hT0 : mTX L tx (dm_up ρ 120 2 (.int (nI (rd 2 + 1)))) := mTX_up hT
    have hT1 : mTX L tx (dm_up (dm_up ρ 120 2 (.int (nI (rd 2 + 1)))) 120 (37 + rd 2) (.int (nI (nuV L tx (p + 1))))) := mTX_up hT0
    have hT2 : mTX L tx (dm_up (dm_up (dm_up ρ 120 2 (.int (nI (rd 2 + 1)))) 120 (37 + rd 2) (.int (nI (nuV L tx (p + 1))))) 120 (43 + rd 2) (.int (nI (nuV L tx (nuE L tx (p + 1)))))) := mTX_up hT1
    have hT3 : mTX L tx (dm_up (dm_up (dm_up (dm_up ρ 120 2 (.int (nI (rd 2 + 1)))) 120 (37 + rd 2) (.int (nI (nuV L tx (p + 1))))) 120 (43 + rd 2) (.int (nI (nuV L tx (nuE L tx (p + 1)))))) 120 (49 + rd 2) (.int (nI (nuV L tx (nuE L tx (nuE L tx (p + 1))))))) := mTX_up hT2
    have c0 : ∀ a b sg fg vl, mS (dm_up ρ 120 2 (.int (nI (rd 2 + 1)))) a b sg fg vl 118 1 = (.ref (120 : Nat)) := fun a b sg fg vl => (mS_o (by omega)).trans hT0.2.2.2.2.1
    have c3 : ∀ a b sg fg vl, mS (dm_up (dm_up (dm_up (dm_up ρ 120 2 (.int (nI (rd 2 + 1)))) 120 (37 + rd 2) (.int (nI (nuV L tx (p + 1))))) 120 (43 + rd 2) (.int (nI (nuV L tx (nuE L tx (p + 1)))))) 120 (49 + rd 2) (.int (nI (nuV L tx (nuE L tx (nuE L tx (p + 1))))))) a b sg fg vl 118 1 = (.ref (120 : Nat)) := fun a b sg fg vl => (mS_o (by omega)).trans hT3.2.2.2.2.1
    have f0 : ∀ i j, ¬ i = 120 → (dm_up ρ 120 2 (.int (nI (rd 2 + 1)))) i j = ρ i j := fr_up fr_0
    have f1 : ∀ i j, ¬ i = 120 → (dm_up (dm_up ρ 120 2 (.int (nI (rd 2 + 1)))) 120 (37 + rd 2) (.int (nI (nuV L tx (p + 1))))) i j = ρ i j := fr_up f0
    have f2 : ∀ i j, ¬ i = 120 → (dm_up (dm_up (dm_up ρ 120 2 (.int (nI (rd 2 + 1)))) 120 (37 + rd 2) (.int (nI (nuV L tx (p + 1))))) 120 (43 + rd 2) (.int (nI (nuV L tx (nuE L tx (p + 1)))))) i j = ρ i j := fr_up f1
    have f3 : ∀ i j, ¬ i = 120 → (dm_up (dm_up (dm_up (dm_up ρ 120 2 (.int (nI (rd 2 + 1)))) 120 (37 + rd 2) (.int (nI (nuV L tx (p + 1))))) 120 (43 + rd 2) (.int (nI (nuV L tx (nuE L tx (p + 1)))))) 120 (49 + rd 2) (.int (nI (nuV L tx (nuE L tx (nuE L tx (p + 1))))))) i j = ρ i j := fr_up f2
    have g30 : gi (dm_up (dm_up (dm_up (dm_up ρ 120 2 (.int (nI (rd 2 + 1)))) 120 (37 + rd 2) (.int (nI (nuV L tx (p + 1))))) 120 (43 + rd 2) (.int (nI (nuV L tx (nuE L tx (p + 1)))))) 120 (49 + rd 2) (.int (nI (nuV L tx (nuE L tx (nuE L tx (p + 1))))))) 120 0 = nI (rd 0) := (gi_u (by omega)).trans ((gi_u (by omega)).trans ((gi_u (by omega)).trans g00))
    have g3 : gi (dm_up (dm_up (dm_up (dm_up ρ 120 2 (.int (nI (rd 2 + 1)))) 120 (37 + rd 2) (.int (nI (nuV L tx (p + 1))))) 120 (43 + rd 2) (.int (nI (nuV L tx (nuE L tx (p + 1)))))) 120 (49 + rd 2) (.int (nI (nuV L tx (nuE L tx (nuE L tx (p + 1))))))) 120 (49 + rd 2) = nI (nuV L tx (nuE L tx (nuE L tx (p + 1)))) := gi_uy
    have q1 := nuE_le (L := L) (tx := tx) (p + 1)
    have q2 := nuE_le (L := L) (tx := tx) (nuE L tx (p + 1))
    have q3 := nuE_le (L := L) (tx := tx) (nuE L tx (nuE L tx (p + 1)))
    have v3 := nuV_le (L := L) (tx := tx) (nuE L tx (nuE L tx (p + 1)))
    have esh : nI (nuV L tx (nuE L tx (nuE L tx (p + 1)))) >>> (nI (rd 0) &&& 31) = nI (nuV L tx (nuE L tx (nuE L tx (p + 1))) >>> rd 0) := nI_shr (by omega) (by omega)
    have ediv : nuV L tx (nuE L tx (nuE L tx (p + 1))) >>> rd 0 = nuV L tx (nuE L tx (nuE L tx (p + 1))) / 2 ^ rd 0 := Nat.shiftRight_eq_div_pow _ _
    have hdl : nuV L tx (nuE L tx (nuE L tx (p + 1))) / 2 ^ rd 0 ≤ nuV L tx (nuE L tx (nuE L tx (p + 1))) := Nat.div_le_self _ _
    have esz : nI (nuV L tx (nuE L tx (nuE L tx (p + 1))) >>> rd 0) = nI 0 ↔ nuV L tx (nuE L tx (nuE L tx (p + 1))) >>> rd 0 = 0 := nI_eq (by omega) (by omega)
    unfold tG
    rw [hz]
    by_cases k1 : kN L tx 0 (rd 0 - 1) (p + 1) = 0
    · have z1 := nu_0 (L := L) (tx := tx) (s := psWo true (p, 0, 0)) rfl k1
      have n1 := fun Q => c_mnu0 (Q := Q) (b := p) (sg := sg) (fg := fg) (vl := vl) (j := 37 + rd 2) hT0 (show p + 1 ≤ 300 by omega) (show 37 + rd 2 < 79 by omega) (show 0 ≤ 1000 by omega) (show rd 0 - 1 ≤ 1000 by omega) k1
      by_cases k2 : kN L tx 0 99 (nuE L tx (p + 1)) = 0
      · have z2 := nu_0 (L := L) (tx := tx) z1 k2
        have n2 := fun Q b sg fg vl => c_mnu0 (Q := Q) (b := b) (sg := sg) (fg := fg) (vl := vl) (j := 43 + rd 2) hT1 (show nuE L tx (p + 1) ≤ 300 by omega) (show 43 + rd 2 < 79 by omega) (show 0 ≤ 1000 by omega) (show 99 ≤ 1000 by omega) k2
        by_cases k3 : kN L tx 1 255 (nuE L tx (nuE L tx (p + 1))) = 0
        · have n3 := fun Q b sg fg vl => c_mnu0 (Q := Q) (b := b) (sg := sg) (fg := fg) (vl := vl) (j := 49 + rd 2) hT2 (show nuE L tx (nuE L tx (p + 1)) ≤ 300 by omega) (show 49 + rd 2 < 79 by omega) (show 1 ≤ 1000 by omega) (show 255 ≤ 1000 by omega) k3
          obtain ⟨t1, t2, t3, t4⟩ := kN_ok k3
          by_cases y : nuV L tx (nuE L tx (nuE L tx (p + 1))) < 2 ^ rd 0
          · have y0 : nuV L tx (nuE L tx (nuE L tx (p + 1))) >>> rd 0 = 0 := by rw [ediv]; exact Nat.div_eq_of_lt y
            have k3' : kN L tx 1 (2 ^ rd 0 - 1) (nuE L tx (nuE L tx (p + 1))) = 0 := by
              unfold kN
              rw [if_neg t1, if_neg (by omega)]
            have z3 := nu_0 (L := L) (tx := tx) z2 k3'
            by_cases k5 : ltI L tx (skB L tx (nuE L tx (nuE L tx (nuE L tx (p + 1))))) = nI 59
            · have z5 := sg_0 (L := L) (tx := tx) z3 k5
              have n5 := fun Q b sg fg vl => c_ends0 (Q := Q) (b := b) (sg := sg) (fg := fg) (vl := vl) hT3 (show nuE L tx (nuE L tx (nuE L tx (p + 1))) ≤ 300 by omega) k5
              refine ⟨nI 1, mS (dm_up (dm_up (dm_up (dm_up ρ 120 2 (.int (nI (rd 2 + 1)))) 120 (37 + rd 2) (.int (nI (nuV L tx (p + 1))))) 120 (43 + rd 2) (.int (nI (nuV L tx (nuE L tx (p + 1)))))) 120 (49 + rd 2) (.int (nI (nuV L tx (nuE L tx (nuE L tx (p + 1))))))) (skB L tx (nuE L tx (nuE L tx (nuE L tx (p + 1)))) + 1) (skB L tx (nuE L tx (nuE L tx (nuE L tx (p + 1))))) (nI 59) 0 0, Er_of ?_, fun _ => ⟨rfl, _, _, _, _, _, rfl, f3, RD_up (RD_up (RD_up (RD_up hR)))⟩, fun z => absurd z5 z⟩
              show Wq none 140 0 [some (.ref (118 : Nat)), none] [] _ _
              simp only [w140_0, w140_1, w140_4, w140_5, w140_6, w140_7, w140_8, w140_10, w140_13, w140_14, w140_15, w140_18, w140_19, w140_20, w140_23, w140_24, w140_25, w140_26, w140_27, w140_28, w140_29, w140_30, w140_32, w140_33, w140_34, w140_35, w140_36, w140_39, w140_40, w140_41, w140_42, w140_43, w140_46, w140_49, w140_50, w140_52, w140_53, w140_54, w140_55, w140_57, w140_60, w140_63, w140_64, w140_66, w140_67, w140_68, w140_69, w140_72, w140_75, w140_78, w140_79, w140_80, w140_81, w140_84, w140_86, w140_87, w140_88, w140_89, w140_90, w140_93, w140_94, w140_95, w140_96, w140_99, w140_100, w140_103, w140_106, w140_107, w140_108, w140_111, ks_118, kt_120, a1, in_nI (show 0 < kl 120 by rw [kl_120]; omega) (by rw [kl_120]; omega), nI_clamp (show 0 < 2 ^ 31 by omega), in_nI (show 2 < kl 120 by rw [kl_120]; omega) (by rw [kl_120]; omega), nI_clamp (show 2 < 2 ^ 31 by omega), in_nI (show 49 + rd 2 < kl 120 by rw [kl_120]; omega) (by rw [kl_120]; omega), nI_clamp (show 49 + rd 2 < 2 ^ 31 by omega), mS_gi2, g0, g2, g00, g30, g3, es, e, nI_add, mS_u, hx', c0, c3, esh, esz, y0, n1, n2, n3, n5, nI_ne1, (by decide : nI 1 &&& 1 = nI 1), (by decide : nI 0 &&& 1 = nI 0), ↓reduceIte, Option.toList_some, Option.toList_none, List.cons_append, List.nil_append, and_self]
            · refine ⟨nI 0, fH L tx (dm_up (dm_up (dm_up (dm_up ρ 120 2 (.int (nI (rd 2 + 1)))) 120 (37 + rd 2) (.int (nI (nuV L tx (p + 1))))) 120 (43 + rd 2) (.int (nI (nuV L tx (nuE L tx (p + 1)))))) 120 (49 + rd 2) (.int (nI (nuV L tx (nuE L tx (nuE L tx (p + 1))))))) (nuE L tx (nuE L tx (nuE L tx (p + 1)))) 1, Er_of ?_, MPo_f (sg_w1 z3 k5) (MF_H f3)⟩
              have n5 := fun Q b sg fg vl => c_fen (Q := Q) (b := b) (sg := sg) (fg := fg) (vl := vl) hT3 (show nuE L tx (nuE L tx (nuE L tx (p + 1))) ≤ 300 by omega) k5
              show Wq none 140 0 [some (.ref (118 : Nat)), none] [] _ _
              simp only [w140_0, w140_1, w140_4, w140_5, w140_6, w140_7, w140_8, w140_10, w140_13, w140_14, w140_15, w140_18, w140_19, w140_20, w140_23, w140_24, w140_25, w140_26, w140_27, w140_28, w140_29, w140_30, w140_32, w140_33, w140_34, w140_35, w140_36, w140_39, w140_40, w140_41, w140_42, w140_43, w140_46, w140_49, w140_50, w140_52, w140_53, w140_54, w140_55, w140_57, w140_60, w140_63, w140_64, w140_66, w140_67, w140_68, w140_69, w140_72, w140_75, w140_78, w140_79, w140_80, w140_81, w140_84, w140_86, w140_87, w140_88, w140_89, w140_90, w140_93, w140_94, w140_95, w140_96, w140_99, w140_100, w140_103, w140_106, w140_107, w140_108, w140_111, ks_118, kt_120, a1, in_nI (show 0 < kl 120 by rw [kl_120]; omega) (by rw [kl_120]; omega), nI_clamp (show 0 < 2 ^ 31 by omega), in_nI (show 2 < kl 120 by rw [kl_120]; omega) (by rw [kl_120]; omega), nI_clamp (show 2 < 2 ^ 31 by omega), in_nI (show 49 + rd 2 < kl 120 by rw [kl_120]; omega) (by rw [kl_120]; omega), nI_clamp (show 49 + rd 2 < 2 ^ 31 by omega), mS_gi2, g0, g2, g00, g30, g3, es, e, nI_add, mS_u, hx', c0, c3, esh, esz, y0, n1, n2, n3, n5, nI_ne1, (by decide : nI 1 &&& 1 = nI 1), (by decide : nI 0 &&& 1 = nI 0), ↓reduceIte, Option.toList_some, Option.toList_none, List.cons_append, List.nil_append, and_self]
          · have y0 : ¬ nuV L tx (nuE L tx (nuE L tx (p + 1))) >>> rd 0 = 0 := by
              rw [ediv]
              have := Nat.div_pos (Nat.le_of_not_lt y) hpw1
              omega
            have k3' : kN L tx 1 (2 ^ rd 0 - 1) (nuE L tx (nuE L tx (p + 1))) = 2 := by
              unfold kN
              rw [if_neg t1, if_pos (by omega)]
            have w3 := nu_w (L := L) (tx := tx) (s := psNu L tx 0 99 (psNu L tx 0 (rd 0 - 1) (psWo true (p, 0, 0)))) (l := 1) (m := 2 ^ rd 0 - 1) z2 (fun z => by have z' : kN L tx 1 (2 ^ rd 0 - 1) (nuE L tx (nuE L tx (p + 1))) = 0 := z; omega)
            have w3' : isW (psNu L tx 1 (2 ^ rd 0 - 1) (psNu L tx 0 99 (psNu L tx 0 (rd 0 - 1) (psWo true (p, 0, 0))))) 2 (skB L tx (nuE L tx (nuE L tx (p + 1)))) := by
              have hw : kN L tx 1 (2 ^ rd 0 - 1) (psNu L tx 0 99 (psNu L tx 0 (rd 0 - 1) (psWo true (p, 0, 0)))).1 = 2 := k3'
              rw [hw] at w3
              exact w3
            refine ⟨nI 0, dm_up (mS (dm_up (dm_up (dm_up (dm_up ρ 120 2 (.int (nI (rd 2 + 1)))) 120 (37 + rd 2) (.int (nI (nuV L tx (p + 1))))) 120 (43 + rd 2) (.int (nI (nuV L tx (nuE L tx (p + 1)))))) 120 (49 + rd 2) (.int (nI (nuV L tx (nuE L tx (nuE L tx (p + 1))))))) (nuE L tx (nuE L tx (nuE L tx (p + 1)))) (skB L tx (nuE L tx (nuE L tx (p + 1)))) (nI 48) (nuE L tx (nuE L tx (nuE L tx (p + 1))) - skB L tx (nuE L tx (nuE L tx (p + 1)))) (nuV L tx (nuE L tx (nuE L tx (p + 1))))) 118 21 (.int (nI 2)), Er_of ?_, MPo_f (isW_sg w3') (MF_i f3)⟩
            show Wq none 140 0 [some (.ref (118 : Nat)), none] [] _ _
            simp only [w140_0, w140_1, w140_4, w140_5, w140_6, w140_7, w140_8, w140_10, w140_13, w140_14, w140_15, w140_18, w140_19, w140_20, w140_23, w140_24, w140_25, w140_26, w140_27, w140_28, w140_29, w140_30, w140_32, w140_33, w140_34, w140_35, w140_36, w140_39, w140_40, w140_41, w140_42, w140_43, w140_46, w140_49, w140_50, w140_52, w140_53, w140_54, w140_55, w140_57, w140_60, w140_63, w140_64, w140_66, w140_67, w140_68, w140_69, w140_72, w140_75, w140_78, w140_79, w140_80, w140_81, w140_84, w140_86, w140_87, w140_88, w140_89, w140_90, w140_93, w140_94, w140_95, w140_96, w140_99, w140_100, w140_103, w140_106, w140_107, w140_108, w140_111, ks_118, kt_120, a1, in_nI (show 0 < kl 120 by rw [kl_120]; omega) (by rw [kl_120]; omega), nI_clamp (show 0 < 2 ^ 31 by omega), in_nI (show 2 < kl 120 by rw [kl_120]; omega) (by rw [kl_120]; omega), nI_clamp (show 2 < 2 ^ 31 by omega), in_nI (show 49 + rd 2 < kl 120 by rw [kl_120]; omega) (by rw [kl_120]; omega), nI_clamp (show 49 + rd 2 < 2 ^ 31 by omega), mS_gi2, g0, g2, g00, g30, g3, es, e, nI_add, mS_u, hx', c0, c3, esh, esz, y0, n1, n2, n3, c_fails, nI_ne1, (by decide : nI 1 &&& 1 = nI 1), (by decide : nI 0 &&& 1 = nI 0), ↓reduceIte, Option.toList_some, Option.toList_none, List.cons_append, List.nil_append, and_self]
        · have ke := kN_m (L := L) (tx := tx) (show 2 ^ rd 0 - 1 ≤ 255 by omega) k3
          have k3' : ¬ kN L tx 1 (2 ^ rd 0 - 1) (nuE L tx (nuE L tx (p + 1))) = 0 := by rw [ke]; exact k3
          refine ⟨nI 0, fH L tx (dm_up (dm_up (dm_up ρ 120 2 (.int (nI (rd 2 + 1)))) 120 (37 + rd 2) (.int (nI (nuV L tx (p + 1))))) 120 (43 + rd 2) (.int (nI (nuV L tx (nuE L tx (p + 1)))))) (nuE L tx (nuE L tx (p + 1))) (kN L tx 1 (2 ^ rd 0 - 1) (nuE L tx (nuE L tx (p + 1)))), Er_of ?_, MPo_f (isW_sg (nu_w z2 k3')) (MF_H f2)⟩
          have n3 := fun Q b sg fg vl => c_fnu (Q := Q) (b := b) (sg := sg) (fg := fg) (vl := vl) (j := 49 + rd 2) hT2 (show nuE L tx (nuE L tx (p + 1)) ≤ 300 by omega) (show 1 ≤ 1000 by omega) (show 255 ≤ 1000 by omega) k3
          rw [ke]
          show Wq none 140 0 [some (.ref (118 : Nat)), none] [] _ _
          simp only [w140_0, w140_1, w140_4, w140_5, w140_6, w140_7, w140_8, w140_10, w140_13, w140_14, w140_15, w140_18, w140_19, w140_20, w140_23, w140_24, w140_25, w140_26, w140_27, w140_28, w140_29, w140_30, w140_32, w140_33, w140_34, w140_35, w140_36, w140_39, w140_40, w140_41, w140_42, w140_43, w140_46, w140_49, w140_50, w140_52, w140_53, w140_54, w140_55, w140_57, w140_60, w140_63, w140_64, w140_66, w140_67, w140_68, w140_69, w140_72, w140_75, w140_78, w140_79, w140_80, w140_81, w140_84, w140_86, w140_87, w140_88, w140_89, w140_90, w140_93, w140_94, w140_95, w140_96, w140_99, w140_100, w140_103, w140_106, w140_107, w140_108, w140_111, ks_118, kt_120, a1, in_nI (show 0 < kl 120 by rw [kl_120]; omega) (by rw [kl_120]; omega), nI_clamp (show 0 < 2 ^ 31 by omega), in_nI (show 2 < kl 120 by rw [kl_120]; omega) (by rw [kl_120]; omega), nI_clamp (show 2 < 2 ^ 31 by omega), in_nI (show 49 + rd 2 < kl 120 by rw [kl_120]; omega) (by rw [kl_120]; omega), nI_clamp (show 49 + rd 2 < 2 ^ 31 by omega), mS_gi2, g0, g2, g00, g30, g3, es, e, nI_add, mS_u, hx', c0, c3, n1, n2, n3, nI_ne1, (by decide : nI 1 &&& 1 = nI 1), (by decide : nI 0 &&& 1 = nI 0), ↓reduceIte, Option.toList_some, Option.toList_none, List.cons_append, List.nil_append, and_self]
      · refine ⟨nI 0, fH L tx (dm_up (dm_up ρ 120 2 (.int (nI (rd 2 + 1)))) 120 (37 + rd 2) (.int (nI (nuV L tx (p + 1))))) (nuE L tx (p + 1)) (kN L tx 0 99 (nuE L tx (p + 1))), Er_of ?_, MPo_f (isW_sg (isW_nu (nu_w z1 k2))) (MF_H f1)⟩
        have n2 := fun Q b sg fg vl => c_fnu (Q := Q) (b := b) (sg := sg) (fg := fg) (vl := vl) (j := 43 + rd 2) hT1 (show nuE L tx (p + 1) ≤ 300 by omega) (show 0 ≤ 1000 by omega) (show 99 ≤ 1000 by omega) k2
        show Wq none 140 0 [some (.ref (118 : Nat)), none] [] _ _
        simp only [w140_0, w140_1, w140_4, w140_5, w140_6, w140_7, w140_8, w140_10, w140_13, w140_14, w140_15, w140_18, w140_19, w140_20, w140_23, w140_24, w140_25, w140_26, w140_27, w140_28, w140_29, w140_30, w140_32, w140_33, w140_34, w140_35, w140_36, w140_39, w140_40, w140_41, w140_42, w140_43, w140_46, w140_49, w140_50, w140_52, w140_53, w140_54, w140_55, w140_57, w140_60, w140_63, w140_64, w140_66, w140_67, w140_68, w140_69, w140_72, w140_75, w140_78, w140_79, w140_80, w140_81, w140_84, w140_86, w140_87, w140_88, w140_89, w140_90, w140_93, w140_94, w140_95, w140_96, w140_99, w140_100, w140_103, w140_106, w140_107, w140_108, w140_111, ks_118, kt_120, a1, in_nI (show 0 < kl 120 by rw [kl_120]; omega) (by rw [kl_120]; omega), nI_clamp (show 0 < 2 ^ 31 by omega), in_nI (show 2 < kl 120 by rw [kl_120]; omega) (by rw [kl_120]; omega), nI_clamp (show 2 < 2 ^ 31 by omega), in_nI (show 49 + rd 2 < kl 120 by rw [kl_120]; omega) (by rw [kl_120]; omega), nI_clamp (show 49 + rd 2 < 2 ^ 31 by omega), mS_gi2, g0, g2, g00, g30, g3, es, e, nI_add, mS_u, hx', c0, c3, n1, n2, nI_ne1, (by decide : nI 1 &&& 1 = nI 1), (by decide : nI 0 &&& 1 = nI 0), ↓reduceIte, Option.toList_some, Option.toList_none, List.cons_append, List.nil_append, and_self]
    · refine ⟨nI 0, fH L tx (dm_up ρ 120 2 (.int (nI (rd 2 + 1)))) (p + 1) (kN L tx 0 (rd 0 - 1) (p + 1)), Er_of ?_, MPo_f (isW_sg (isW_nu (isW_nu (nu_w rfl k1)))) (MF_H f0)⟩
      have n1 := fun Q => c_fnu (Q := Q) (b := p) (sg := sg) (fg := fg) (vl := vl) (j := 37 + rd 2) hT0 (show p + 1 ≤ 300 by omega) (show 0 ≤ 1000 by omega) (show rd 0 - 1 ≤ 1000 by omega) k1
      show Wq none 140 0 [some (.ref (118 : Nat)), none] [] _ _
      simp only [w140_0, w140_1, w140_4, w140_5, w140_6, w140_7, w140_8, w140_10, w140_13, w140_14, w140_15, w140_18, w140_19, w140_20, w140_23, w140_24, w140_25, w140_26, w140_27, w140_28, w140_29, w140_30, w140_32, w140_33, w140_34, w140_35, w140_36, w140_39, w140_40, w140_41, w140_42, w140_43, w140_46, w140_49, w140_50, w140_52, w140_53, w140_54, w140_55, w140_57, w140_60, w140_63, w140_64, w140_66, w140_67, w140_68, w140_69, w140_72, w140_75, w140_78, w140_79, w140_80, w140_81, w140_84, w140_86, w140_87, w140_88, w140_89, w140_90, w140_93, w140_94, w140_95, w140_96, w140_99, w140_100, w140_103, w140_106, w140_107, w140_108, w140_111, ks_118, kt_120, a1, in_nI (show 0 < kl 120 by rw [kl_120]; omega) (by rw [kl_120]; omega), nI_clamp (show 0 < 2 ^ 31 by omega), in_nI (show 2 < kl 120 by rw [kl_120]; omega) (by rw [kl_120]; omega), nI_clamp (show 2 < 2 ^ 31 by omega), in_nI (show 49 + rd 2 < kl 120 by rw [kl_120]; omega) (by rw [kl_120]; omega), nI_clamp (show 49 + rd 2 < 2 ^ 31 by omega), mS_gi2, g0, g2, g00, g30, g3, es, e, nI_add, mS_u, hx', c0, c3, n1, nI_ne1, (by decide : nI 1 &&& 1 = nI 1), (by decide : nI 0 &&& 1 = nI 0), ↓reduceIte, Option.toList_some, Option.toList_none, List.cons_append, List.nil_append, and_self]
  · have hx' : rd 2 = 6 := by omega
    have hz : decide (rd 2 < 6) = false := decide_eq_false hx
    unfold tG
    rw [hz]
    have w0 : isW (psWo false (p, 0, 0)) 3 p := ⟨rfl, by omega⟩
    refine ⟨nI 0, dm_up (mS ρ (p + 1) p sg fg vl) 118 21 (.int (nI 3)), Er_of ?_, MPo_f (isW_sg (isW_nu (isW_nu (isW_nu w0)))) (MF_i fr_0)⟩
    show Wq none 140 0 [some (.ref (118 : Nat)), none] [] _ _
    simp only [w140_0, w140_1, w140_4, w140_5, w140_6, w140_7, w140_8, w140_10, w140_13, w140_14, w140_15, w140_18, w140_19, w140_20, w140_23, w140_24, w140_25, w140_26, w140_27, w140_28, w140_29, w140_30, w140_32, w140_33, w140_34, w140_35, w140_36, w140_39, w140_40, w140_41, w140_42, w140_43, w140_46, w140_49, w140_50, w140_52, w140_53, w140_54, w140_55, w140_57, w140_60, w140_63, w140_64, w140_66, w140_67, w140_68, w140_69, w140_72, w140_75, w140_78, w140_79, w140_80, w140_81, w140_84, w140_86, w140_87, w140_88, w140_89, w140_90, w140_93, w140_94, w140_95, w140_96, w140_99, w140_100, w140_103, w140_106, w140_107, w140_108, w140_111, ks_118, kt_120, a1, in_nI (show 2 < kl 120 by rw [kl_120]; omega) (by rw [kl_120]; omega), nI_clamp (show 2 < 2 ^ 31 by omega), mS_gi2, g2, e, hx', c_fails, (by decide : nI 1 &&& 1 = nI 1), (by decide : nI 0 &&& 1 = nI 0), ↓reduceIte, Option.toList_some, Option.toList_none, List.cons_append, List.nil_append, and_self]
theorem m_readE {p : Nat} (hT : mTX L tx ρ) (hR : RD ρ rd) (hp : p ≤ 240) (h0 : rd 0 ≤ 8) (hp0 : 0 < rd 0) (h3 : rd 3 ≤ 6) : ∃ v τ, Er 141 [(.ref (118 : Nat))] (mS ρ (p + 1) p sg fg vl) (some (.int v)) τ ∧ MPo ρ (tE L tx rd p) v τ := by
  have hL := hT.1
  have a1 : ∀ a b sg fg vl, mS ρ a b sg fg vl 118 1 = (.ref (120 : Nat)) := fun a b sg fg vl => (mS_o (by omega)).trans hT.2.2.2.2.1
  have g0 : gi ρ 120 0 = nI (rd 0) := hR 0 (by omega)
  have g2 : gi ρ 120 3 = nI (rd 3) := hR 3 (by omega)
  have es : nI (rd 0) - nI 1 = nI (rd 0 - 1) := pk_sub (by omega)
  have e : nI (rd 3) = nI 6 ↔ rd 3 = 6 := nI_eq (by omega) (by omega)
  have g00 : gi (dm_up ρ 120 3 (.int (nI (rd 3 + 1)))) 120 0 = nI (rd 0) := (gi_u (by omega)).trans g0
  by_cases hx : rd 3 < 6
  · have hx' : ¬ rd 3 = 6 := by omega
    have hz : decide (rd 3 < 6) = true := decide_eq_true hx
    have hT0 : mTX L tx (dm_up ρ 120 3 (.int (nI (rd 3 + 1)))) := mTX_up hT
    have hT1 : mTX L tx (dm_up (dm_up ρ 120 3 (.int (nI (rd 3 + 1)))) 120 (55 + rd 3) (.int (nI (nuV L tx (p + 1))))) := mTX_up hT0
    have hT2 : mTX L tx (dm_up (dm_up (dm_up ρ 120 3 (.int (nI (rd 3 + 1)))) 120 (55 + rd 3) (.int (nI (nuV L tx (p + 1))))) 120 (61 + rd 3) (.int (nI (nuV L tx (nuE L tx (p + 1)))))) := mTX_up hT1
    have c0 : ∀ a b sg fg vl, mS (dm_up ρ 120 3 (.int (nI (rd 3 + 1)))) a b sg fg vl 118 1 = (.ref (120 : Nat)) := fun a b sg fg vl => (mS_o (by omega)).trans hT0.2.2.2.2.1
    have c1 : ∀ a b sg fg vl, mS (dm_up (dm_up ρ 120 3 (.int (nI (rd 3 + 1)))) 120 (55 + rd 3) (.int (nI (nuV L tx (p + 1))))) a b sg fg vl 118 1 = (.ref (120 : Nat)) := fun a b sg fg vl => (mS_o (by omega)).trans hT1.2.2.2.2.1
    have f0 : ∀ i j, ¬ i = 120 → (dm_up ρ 120 3 (.int (nI (rd 3 + 1)))) i j = ρ i j := fr_up fr_0
    have f1 : ∀ i j, ¬ i = 120 → (dm_up (dm_up ρ 120 3 (.int (nI (rd 3 + 1)))) 120 (55 + rd 3) (.int (nI (nuV L tx (p + 1))))) i j = ρ i j := fr_up f0
    have f2 : ∀ i j, ¬ i = 120 → (dm_up (dm_up (dm_up ρ 120 3 (.int (nI (rd 3 + 1)))) 120 (55 + rd 3) (.int (nI (nuV L tx (p + 1))))) 120 (61 + rd 3) (.int (nI (nuV L tx (nuE L tx (p + 1)))))) i j = ρ i j := fr_up f1
    have g01 : gi (dm_up (dm_up ρ 120 3 (.int (nI (rd 3 + 1)))) 120 (55 + rd 3) (.int (nI (nuV L tx (p + 1))))) 120 0 = nI (rd 0) := (gi_u (by omega)).trans g00
    have q1 := nuE_le (L := L) (tx := tx) (p + 1)
    have q2 := nuE_le (L := L) (tx := tx) (nuE L tx (p + 1))
    unfold tE
    rw [hz]
    by_cases k1 : kN L tx 0 (rd 0 - 1) (p + 1) = 0
    · have z1 := nu_0 (L := L) (tx := tx) (s := psWo true (p, 0, 0)) rfl k1
      have n1 := fun Q => c_mnu0 (Q := Q) (b := p) (sg := sg) (fg := fg) (vl := vl) (j := 55 + rd 3) hT0 (show p + 1 ≤ 300 by omega) (show 55 + rd 3 < 79 by omega) (show 0 ≤ 1000 by omega) (show rd 0 - 1 ≤ 1000 by omega) k1
      by_cases k2 : kN L tx 0 (rd 0 - 1) (nuE L tx (p + 1)) = 0
      · have z2 := nu_0 (L := L) (tx := tx) z1 k2
        have n2 := fun Q b sg fg vl => c_mnu0 (Q := Q) (b := b) (sg := sg) (fg := fg) (vl := vl) (j := 61 + rd 3) hT1 (show nuE L tx (p + 1) ≤ 300 by omega) (show 61 + rd 3 < 79 by omega) (show 0 ≤ 1000 by omega) (show rd 0 - 1 ≤ 1000 by omega) k2
        by_cases k5 : ltI L tx (skB L tx (nuE L tx (nuE L tx (p + 1)))) = nI 59
        · have z5 := sg_0 (L := L) (tx := tx) z2 k5
          have n5 := fun Q b sg fg vl => c_ends0 (Q := Q) (b := b) (sg := sg) (fg := fg) (vl := vl) hT2 (show nuE L tx (nuE L tx (p + 1)) ≤ 300 by omega) k5
          refine ⟨nI 1, mS (dm_up (dm_up (dm_up ρ 120 3 (.int (nI (rd 3 + 1)))) 120 (55 + rd 3) (.int (nI (nuV L tx (p + 1))))) 120 (61 + rd 3) (.int (nI (nuV L tx (nuE L tx (p + 1)))))) (skB L tx (nuE L tx (nuE L tx (p + 1))) + 1) (skB L tx (nuE L tx (nuE L tx (p + 1)))) (nI 59) 0 0, Er_of ?_, fun _ => ⟨rfl, _, _, _, _, _, rfl, f2, RD_up (RD_up (RD_up hR))⟩, fun z => absurd z5 z⟩
          show Wq none 141 0 [some (.ref (118 : Nat)), none] [] _ _
          simp only [w141_0, w141_1, w141_4, w141_5, w141_6, w141_7, w141_8, w141_10, w141_13, w141_14, w141_15, w141_18, w141_19, w141_20, w141_23, w141_24, w141_25, w141_26, w141_27, w141_28, w141_29, w141_30, w141_32, w141_33, w141_34, w141_35, w141_36, w141_39, w141_40, w141_41, w141_42, w141_43, w141_46, w141_49, w141_50, w141_52, w141_53, w141_54, w141_55, w141_56, w141_59, w141_60, w141_61, w141_62, w141_63, w141_66, w141_69, w141_70, w141_73, w141_76, w141_77, w141_80, w141_81, ks_118, kt_120, a1, in_nI (show 0 < kl 120 by rw [kl_120]; omega) (by rw [kl_120]; omega), nI_clamp (show 0 < 2 ^ 31 by omega), in_nI (show 3 < kl 120 by rw [kl_120]; omega) (by rw [kl_120]; omega), nI_clamp (show 3 < 2 ^ 31 by omega), mS_gi2, g0, g2, g00, g01, es, e, nI_add, mS_u, hx', c0, c1, n1, n2, n5, nI_ne1, (by decide : nI 1 &&& 1 = nI 1), (by decide : nI 0 &&& 1 = nI 0), ↓reduceIte, Option.toList_some, Option.toList_none, List.cons_append, List.nil_append, and_self]
        · refine ⟨nI 0, fH L tx (dm_up (dm_up (dm_up ρ 120 3 (.int (nI (rd 3 + 1)))) 120 (55 + rd 3) (.int (nI (nuV L tx (p + 1))))) 120 (61 + rd 3) (.int (nI (nuV L tx (nuE L tx (p + 1)))))) (nuE L tx (nuE L tx (p + 1))) 1, Er_of ?_, MPo_f (sg_w1 z2 k5) (MF_H f2)⟩
          have n5 := fun Q b sg fg vl => c_fen (Q := Q) (b := b) (sg := sg) (fg := fg) (vl := vl) hT2 (show nuE L tx (nuE L tx (p + 1)) ≤ 300 by omega) k5
          show Wq none 141 0 [some (.ref (118 : Nat)), none] [] _ _
          simp only [w141_0, w141_1, w141_4, w141_5, w141_6, w141_7, w141_8, w141_10, w141_13, w141_14, w141_15, w141_18, w141_19, w141_20, w141_23, w141_24, w141_25, w141_26, w141_27, w141_28, w141_29, w141_30, w141_32, w141_33, w141_34, w141_35, w141_36, w141_39, w141_40, w141_41, w141_42, w141_43, w141_46, w141_49, w141_50, w141_52, w141_53, w141_54, w141_55, w141_56, w141_59, w141_60, w141_61, w141_62, w141_63, w141_66, w141_69, w141_70, w141_73, w141_76, w141_77, w141_80, w141_81, ks_118, kt_120, a1, in_nI (show 0 < kl 120 by rw [kl_120]; omega) (by rw [kl_120]; omega), nI_clamp (show 0 < 2 ^ 31 by omega), in_nI (show 3 < kl 120 by rw [kl_120]; omega) (by rw [kl_120]; omega), nI_clamp (show 3 < 2 ^ 31 by omega), mS_gi2, g0, g2, g00, g01, es, e, nI_add, mS_u, hx', c0, c1, n1, n2, n5, nI_ne1, (by decide : nI 1 &&& 1 = nI 1), (by decide : nI 0 &&& 1 = nI 0), ↓reduceIte, Option.toList_some, Option.toList_none, List.cons_append, List.nil_append, and_self]
      · refine ⟨nI 0, fH L tx (dm_up (dm_up ρ 120 3 (.int (nI (rd 3 + 1)))) 120 (55 + rd 3) (.int (nI (nuV L tx (p + 1))))) (nuE L tx (p + 1)) (kN L tx 0 (rd 0 - 1) (nuE L tx (p + 1))), Er_of ?_, MPo_f (isW_sg (nu_w z1 k2)) (MF_H f1)⟩
        have n2 := fun Q b sg fg vl => c_fnu (Q := Q) (b := b) (sg := sg) (fg := fg) (vl := vl) (j := 61 + rd 3) hT1 (show nuE L tx (p + 1) ≤ 300 by omega) (show 0 ≤ 1000 by omega) (show rd 0 - 1 ≤ 1000 by omega) k2
        show Wq none 141 0 [some (.ref (118 : Nat)), none] [] _ _
        simp only [w141_0, w141_1, w141_4, w141_5, w141_6, w141_7, w141_8, w141_10, w141_13, w141_14, w141_15, w141_18, w141_19, w141_20, w141_23, w141_24, w141_25, w141_26, w141_27, w141_28, w141_29, w141_30, w141_32, w141_33, w141_34, w141_35, w141_36, w141_39, w141_40, w141_41, w141_42, w141_43, w141_46, w141_49, w141_50, w141_52, w141_53, w141_54, w141_55, w141_56, w141_59, w141_60, w141_61, w141_62, w141_63, w141_66, w141_69, w141_70, w141_73, w141_76, w141_77, w141_80, w141_81, ks_118, kt_120, a1, in_nI (show 0 < kl 120 by rw [kl_120]; omega) (by rw [kl_120]; omega), nI_clamp (show 0 < 2 ^ 31 by omega), in_nI (show 3 < kl 120 by rw [kl_120]; omega) (by rw [kl_120]; omega), nI_clamp (show 3 < 2 ^ 31 by omega), mS_gi2, g0, g2, g00, g01, es, e, nI_add, mS_u, hx', c0, c1, n1, n2, nI_ne1, (by decide : nI 1 &&& 1 = nI 1), (by decide : nI 0 &&& 1 = nI 0), ↓reduceIte, Option.toList_some, Option.toList_none, List.cons_append, List.nil_append, and_self]
    · refine ⟨nI 0, fH L tx (dm_up ρ 120 3 (.int (nI (rd 3 + 1)))) (p + 1) (kN L tx 0 (rd 0 - 1) (p + 1)), Er_of ?_, MPo_f (isW_sg (isW_nu (nu_w rfl k1))) (MF_H f0)⟩
      have n1 := fun Q => c_fnu (Q := Q) (b := p) (sg := sg) (fg := fg) (vl := vl) (j := 55 + rd 3) hT0 (show p + 1 ≤ 300 by omega) (show 0 ≤ 1000 by omega) (show rd 0 - 1 ≤ 1000 by omega) k1
      show Wq none 141 0 [some (.ref (118 : Nat)), none] [] _ _
      simp only [w141_0, w141_1, w141_4, w141_5, w141_6, w141_7, w141_8, w141_10, w141_13, w141_14, w141_15, w141_18, w141_19, w141_20, w141_23, w141_24, w141_25, w141_26, w141_27, w141_28, w141_29, w141_30, w141_32, w141_33, w141_34, w141_35, w141_36, w141_39, w141_40, w141_41, w141_42, w141_43, w141_46, w141_49, w141_50, w141_52, w141_53, w141_54, w141_55, w141_56, w141_59, w141_60, w141_61, w141_62, w141_63, w141_66, w141_69, w141_70, w141_73, w141_76, w141_77, w141_80, w141_81, ks_118, kt_120, a1, in_nI (show 0 < kl 120 by rw [kl_120]; omega) (by rw [kl_120]; omega), nI_clamp (show 0 < 2 ^ 31 by omega), in_nI (show 3 < kl 120 by rw [kl_120]; omega) (by rw [kl_120]; omega), nI_clamp (show 3 < 2 ^ 31 by omega), mS_gi2, g0, g2, g00, g01, es, e, nI_add, mS_u, hx', c0, c1, n1, nI_ne1, (by decide : nI 1 &&& 1 = nI 1), (by decide : nI 0 &&& 1 = nI 0), ↓reduceIte, Option.toList_some, Option.toList_none, List.cons_append, List.nil_append, and_self]
  · have hx' : rd 3 = 6 := by omega
    have hz : decide (rd 3 < 6) = false := decide_eq_false hx
    unfold tE
    rw [hz]
    have w0 : isW (psWo false (p, 0, 0)) 3 p := ⟨rfl, by omega⟩
    refine ⟨nI 0, dm_up (mS ρ (p + 1) p sg fg vl) 118 21 (.int (nI 3)), Er_of ?_, MPo_f (isW_sg (isW_nu (isW_nu w0))) (MF_i fr_0)⟩
    show Wq none 141 0 [some (.ref (118 : Nat)), none] [] _ _
    simp only [w141_0, w141_1, w141_4, w141_5, w141_6, w141_7, w141_8, w141_10, w141_13, w141_14, w141_15, w141_18, w141_19, w141_20, w141_23, w141_24, w141_25, w141_26, w141_27, w141_28, w141_29, w141_30, w141_32, w141_33, w141_34, w141_35, w141_36, w141_39, w141_40, w141_41, w141_42, w141_43, w141_46, w141_49, w141_50, w141_52, w141_53, w141_54, w141_55, w141_56, w141_59, w141_60, w141_61, w141_62, w141_63, w141_66, w141_69, w141_70, w141_73, w141_76, w141_77, w141_80, w141_81, ks_118, kt_120, a1, in_nI (show 3 < kl 120 by rw [kl_120]; omega) (by rw [kl_120]; omega), nI_clamp (show 3 < 2 ^ 31 by omega), mS_gi2, g2, e, hx', c_fails, (by decide : nI 1 &&& 1 = nI 1), (by decide : nI 0 &&& 1 = nI 0), ↓reduceIte, Option.toList_some, Option.toList_none, List.cons_append, List.nil_append, and_self]
end ML
