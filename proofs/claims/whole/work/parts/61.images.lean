/-! images kept and gone back to, what is heard: both sides -/
theorem WN_22 {c n : Nat → Nat} {v : Nat} (hw : WC c) (hn : WN c n) : WN c (up1 n 22 v) := by
  obtain ⟨hn1, hn18, hn19, hn20, hn21⟩ := hn
  have w2 := hw.2.1
  refine ⟨fun x hx => ?_, ?_, ?_, ?_, ?_⟩
  · rw [up1_ne (by omega), up1_ne (by omega), up1_ne (by omega)]
    exact hn1 x hx
  · rw [up1_ne (by omega)]; exact hn18
  · rw [up1_ne (by omega)]; exact hn19
  · rw [up1_ne (by omega)]; exact hn20
  · rw [up1_ne (by omega)]; exact hn21
theorem CN_22 {σ : dm_G} {S G : Nat} {n : Nat → Nat} {v : Nat} (hG : G ≤ 6) (hN : CN σ S G n) : CN σ S G (up1 n 22 v) := by
  obtain ⟨kS, rS, ⟨j3, j4, j5, j6⟩, jf⟩ := hN
  refine ⟨kS, rS, ⟨?_, ?_, ?_, ?_⟩, fun x hx => ?_⟩
  · rw [up1_ne (by omega)]; exact j3
  · rw [up1_ne (by omega)]; exact j4
  · rw [up1_ne (by omega)]; exact j5
  · rw [up1_ne (by omega)]; exact j6
  · rw [up1_ne (by omega), up1_ne (by omega), up1_ne (by omega)]
    exact jf x hx
section IM
variable {σ σ' : dm_G} {Q : Option Value → dm_G → Prop} {S G : Nat} {c n : Nat → Nat} {k : Nat} {p : Nat → Nat → Nat} {q : Nat} {im : Nat → Nat → Nat} {h : Nat} {hs ht : Nat → Nat} {m : Nat} {bg bx : Nat → Nat} {L : Nat} {tx : Nat → Nat} {f : Int32} {s : Nat}
theorem tb_or1 {q i j : Nat} : (q ||| 1 <<< i).testBit j = (q.testBit j || decide (i = j)) := by rw [Nat.testBit_or, tb_shl1]
theorem pr_keep (x : Int32) (hI : Inv σ) : Pr Inv 118 205 [.int x] σ := by
  obtain ⟨c, n, k, p, q, im, h, hs, ht, m, bg, bx, L, tx, f, s, hWA, hCA, hMA⟩ := id hI; obtain ⟨hw, hwn, ⟨hk16, hkp⟩, ⟨hq4, hqi⟩, ⟨hh9, hhs, hht⟩, ⟨hm15, hmb⟩, ⟨hL240, htx⟩, hs31⟩ := id hWA; obtain ⟨⟨P, D, hPD, hB, hC, hD⟩, hN, hPa, hIm, hHe, hBk, hTx, hF, hS, hSc⟩ := id hCA; obtain ⟨hM, hc, hn, hmP, hmI, hmH, hmB, hmT, hmF, hmS⟩ := id hMA
  obtain ⟨b0, b3, b4, b5, b6, b7, b8, b9, b10, b11, b12⟩ := id hB
  obtain ⟨w0, w2, w3, w4, w5, w6, w7, w8, w9⟩ := id hw
  rcases ix_cs x (show 2 < 2 ^ 31 by omega) with ⟨i, hi, rfl⟩ | ⟨hx, hx2⟩
  · have a1 : ¬ nI i < nI 0 := nI_pos (by omega)
    have a2 : nI i < nI 2 := (nI_ltI (by omega) (by omega)).mpr hi
    have hin := in_yes (j := i) (N := 1) (by omega) (by omega)
    obtain ⟨⟨p0, p1, p2, p3⟩, iS, iN⟩ := id hIm
    obtain ⟨u, hu, hP, hSR, hp⟩ := id hPa
    have eT := fun Q => c_imTake (Q := Q) (d := s) ⟨p0, p1, p2, p3⟩ hq4 hi SK_24 hN.2.1 ⟨SK_i i hi, iS i hi⟩ (CN_iN hN)
    let τ1 : dm_G := dm_up (dm_up (beF (96 + 4 * i) 24 σ) 104 i (.int (nI s))) 94 2 (.int (nI (q ||| 1 <<< i)))
    have k1 : ∀ a b, ¬ ((96 ≤ a ∧ a < 105) ∨ (a = 94 ∧ b = 2)) → τ1 a b = σ a b := fun a b z => by
      show dm_up (dm_up (beF (96 + 4 * i) 24 σ) 104 i _) 94 2 _ a b = _
      rw [up_get, if_neg (by omega), up_get, if_neg (by omega), be_out (by omega)]
    have kb : ∀ a b, ¬ (a = 104 ∨ (a = 94 ∧ b = 2)) → τ1 a b = beF (96 + 4 * i) 24 σ a b := fun a b z => by
      show dm_up (dm_up (beF (96 + 4 * i) 24 σ) 104 i _) 94 2 _ a b = _
      rw [up_get, if_neg (by omega), up_get, if_neg (by omega)]
    have eP := fun Q => c_pastClear (Q := Q) (σ := τ1) (CP_of (fun a b z => k1 a b (by omega)) hP)
    let τ2 : dm_G := dm_up τ1 28 2 (.int (nI 0))
    have k2 : ∀ a b, ¬ (a = 28 ∧ b = 2) → τ2 a b = τ1 a b := fun a b z => by
      show dm_up τ1 28 2 _ a b = _
      rw [up_get, if_neg z]
    have k12 : ∀ a b, ¬ ((96 ≤ a ∧ a < 105) ∨ (a = 94 ∧ b = 2) ∨ (a = 28 ∧ b = 2)) → τ2 a b = σ a b := fun a b z => (k2 a b (by omega)).trans (k1 a b (by omega))
    have hCA2 : CA c n 0 p (q ||| 1 <<< i) (fun j => if j = i then up1 n 22 s else im j) h hs ht m bg bx L tx f s τ2 := by
      refine ⟨cPl_of (fun a b z => k12 a b (by omega)) ⟨P, D, hPD, hB, hC, hD⟩, cNo_of (fun a b z => k12 a b (by omega)) hN, ⟨u, hu, ⟨?_, ?_, ?_, ?_⟩, fun j hj => SR_of (fun b => k12 _ b (by omega)) (hSR j hj), fun j hj => absurd hj (by omega)⟩, ⟨⟨?_, ?_, ?_, ?_⟩, fun j hj => ?_, fun j hj hb => ?_⟩, cHe_of (fun a b z => k12 a b (by omega)) hHe, CBk_of (fun a b z => k12 a b (by omega)) hBk, cTx_of (fun a b z => k12 a b (by omega)) hTx, (k12 _ _ (by omega)).trans hF, (k12 _ _ (by omega)).trans hS, cSc_of (fun a b z => k12 a b (by omega)) hSc⟩
      · exact (k12 _ _ (by omega)).trans hP.1
      · exact (k12 _ _ (by omega)).trans hP.2.1
      · rfl
      · intro j hj
        exact (k12 _ _ (by omega)).trans (hP.2.2.2 j hj)
      · exact (k12 _ _ (by omega)).trans p0
      · exact (k12 _ _ (by omega)).trans p1
      · exact (k2 _ _ (by omega)).trans rfl
      · intro j hj
        exact (k12 _ _ (by omega)).trans (p3 j hj)
      · by_cases z : j = i
        · subst z
          refine SR_of (σ := beF (96 + 4 * j) 24 σ) (fun b => (k2 _ _ (by omega)).trans (kb _ _ (by omega))) ?_
          exact ⟨(be_rf (by omega)).trans (iS j hj).1, (be_rf (by omega)).trans (iS j hj).2.1, (be_rf (by omega)).trans (iS j hj).2.2⟩
        · exact SR_of (fun b => (k2 _ _ (by omega)).trans ((kb _ _ (by omega)).trans (be_out (by omega)))) (iS j hj)
      · by_cases z : j = i
        · subst z
          dsimp only
          rw [if_pos rfl, up1_eq]
          refine ⟨CN_22 w2 (CN_of (σ := beF (96 + 4 * j) 24 σ) (fun l b hl => (k2 _ _ (by omega)).trans (kb _ _ (by omega))) (be_CN (SK_i j hj) (iS j hj) w2 hN (Or.inr (by omega)))), ?_⟩
          rw [gi_of (k2 _ _ (by omega))]
          show gi (dm_up (dm_up (beF (96 + 4 * j) 24 σ) 104 j _) 94 2 _) 104 j = _
          rw [gi_up, if_neg (by omega), gi_up, if_pos ⟨rfl, rfl⟩]
        · dsimp only
          rw [if_neg z]
          rw [tb_or1] at hb
          have hb : q.testBit j = true := by
            rcases Bool.or_eq_true _ _ |>.mp hb with hb | hb
            · exact hb
            · exact absurd (of_decide_eq_true hb).symm z
          refine ⟨CN_of (fun l b hl => (k2 _ _ (by omega)).trans ((kb _ _ (by omega)).trans (be_out (by omega)))) (iN j hj hb).1, ?_⟩
          rw [gi_of (k2 _ _ (by omega))]
          show gi (dm_up (dm_up (beF (96 + 4 * i) 24 σ) 104 i _) 94 2 _) 104 j = _
          rw [gi_up, if_neg (by omega), gi_up, if_neg (fun w => z w.2), gi_of (be_out (by omega))]
          exact (iN j hj hb).2
    have hMA2 := MA_lo hMA (fun a b z => k12 a b (by omega))
    obtain ⟨gM, gc, gn, gP, gI, gH, gB, gT, gF, gS⟩ := id hMA2
    let ρ1 : dm_G := cpL τ2 121 0 123 (23 * i) 22
    let ρ2 : dm_G := dm_up ρ1 123 (23 * i + 22) (.int (nI s))
    let ρ3 : dm_G := dm_up ρ2 124 i (.int (vp_nar .boolean (nI 1)))
    let ρ4 : dm_G := dm_up ρ3 118 4 (.int (nI 0))
    have km : ∀ a b, ¬ (a = 123 ∨ a = 124 ∨ (a = 118 ∧ b = 4)) → ρ4 a b = τ2 a b := fun a b z => by
      show dm_up (dm_up (dm_up (cpL τ2 121 0 123 (23 * i) 22) 123 (23 * i + 22) _) 124 i _) 118 4 _ a b = _
      rw [up_get, if_neg (by omega), up_get, if_neg (by omega), up_get, if_neg (by omega)]
      unfold cpL
      rw [if_neg (by omega)]
    have hMA3 : MA c n 0 p (q ||| 1 <<< i) (fun j => if j = i then up1 n 22 s else im j) h hs ht m bg bx L tx f s ρ4 := by
      refine ⟨MR_k (fun a b z => km a b (by omega)) gM, MC_k (fun a b z => km a b (by omega)) gc, MN_k (fun a b z => km a b (by omega)) gn, ⟨rfl, fun j hj => absurd hj (by omega)⟩, fun j hj => ⟨?_, fun hb b hb23 => ?_⟩, MH_k (fun a b z => km a b (by omega)) gH, MB_k (fun a b z => km a b (by omega)) gB, mTx_k (fun a b z => km a b (by omega)) gT, (km _ _ (by omega)).trans gF, (km _ _ (by omega)).trans gS⟩
      · show gi (dm_up (dm_up (dm_up (cpL τ2 121 0 123 (23 * i) 22) 123 (23 * i + 22) _) 124 i _) 118 4 _) 124 j = _
        rw [gi_up, if_neg (by omega), gi_up, tb_or1]
        by_cases z : j = i
        · rw [if_pos ⟨rfl, z⟩, z]
          simp
          decide
        · rw [if_neg (fun w => z w.2), gi_up, if_neg (by omega), gi_of (σ := τ2) (by unfold cpL; rw [if_neg (by omega)]), (gI j hj).1]
          have z' : ¬ i = j := fun w => z w.symm
          simp [z']
      · show gi (dm_up (dm_up (dm_up (cpL τ2 121 0 123 (23 * i) 22) 123 (23 * i + 22) _) 124 i _) 118 4 _) 123 (23 * j + b) = _
        rw [gi_up, if_neg (by omega), gi_up, if_neg (by omega), gi_up]
        dsimp only
        by_cases z : j = i
        · rw [if_pos z, z]
          by_cases y : b = 22
          · rw [if_pos ⟨rfl, by omega⟩, y, up1_eq]
          · rw [if_neg (by omega), up1_ne y]
            unfold gi cpL
            rw [if_pos ⟨rfl, by omega, by omega⟩, show 0 + (23 * i + b - 23 * i) = b by omega]
            exact gn b (by omega)
        · rw [if_neg z, if_neg (by omega), gi_of (σ := τ2) (by unfold cpL; rw [if_neg (by omega)])]
          rw [tb_or1] at hb
          have hb : q.testBit j = true := by
            rcases Bool.or_eq_true _ _ |>.mp hb with hb | hb
            · exact hb
            · exact absurd (of_decide_eq_true hb).symm z
          exact (gI j hj).2 hb b hb23
    have hW3 : WA c n 0 p (q ||| 1 <<< i) (fun j => if j = i then up1 n 22 s else im j) h hs ht m bg bx L tx s := by
      refine ⟨hw, hwn, ⟨by omega, fun j hj => absurd hj (by omega)⟩, ⟨or_lt (n := 2) hq4 (one_shl hi), fun j hj hb => ?_⟩, ⟨hh9, hhs, hht⟩, ⟨hm15, hmb⟩, ⟨hL240, htx⟩, hs31⟩
      dsimp only
      by_cases z : j = i
      · rw [if_pos z, up1_eq]
        exact ⟨WN_22 hw hwn, hs31⟩
      · rw [if_neg z]
        rw [tb_or1] at hb
        have hb : q.testBit j = true := by
          rcases Bool.or_eq_true _ _ |>.mp hb with hb | hb
          · exact hb
          · exact absurd (of_decide_eq_true hb).symm z
        exact hqi j hj hb
    refine pr_of (v := nI 1) (σ1 := τ2) (σ2 := ρ4) (fun Q => Cq_of (Er_of ?_)) (fun Q => Cq_of (Er_of ?_)) (inv_mk hW3 hCA2 (fun a b z => km a b (by omega)) hMA3)
    · show Wq none 118 0 [some (.ref (0 : Nat)), some (.int (nI i))] [] σ _
      have x1 : τ1 0 6 = (.ref (28 : Nat)) := (k1 _ _ (by omega)).trans b7
      have eT' : ∀ Q : Option Value → dm_G → Prop, Cq 33 [(.ref (94 : Nat)), .int (nI i), (.ref (24 : Nat)), .int (nI s)] σ Q = Q none τ1 := eT
      have eP' : ∀ Q : Option Value → dm_G → Prop, Cq 47 [(.ref (28 : Nat))] τ1 Q = Q none τ2 := eP
      simp only [w118_0, w118_1, w118_4, w118_5, w118_6, w118_9, w118_11, w118_12, w118_13, w118_16, w118_17, w118_18, w118_21, w118_22, w118_25, w118_28, w118_29, w118_32, w118_35, w118_36, ks_0, ks_94, ks_28, a1, a2, b6, b8, hS, eT', x1, eP', ↓reduceIte, Option.toList_some, Option.toList_none, List.cons_append, List.nil_append, and_self]
    · show Wq none 205 0 [some (.ref (118 : Nat)), some (.int (nI i))] [] τ2 _
      have e1 : ∀ Q : Option Value → dm_G → Prop, Cq 130 [(.ref (121 : Nat)), .int (nI 0), (.ref (123 : Nat)), .int (nI (23 * i)), .int (nI 22)] τ2 Q = Q none ρ1 := fun Q => c_copies kt_121 kt_123 (by rw [kl_121]; omega) (by rw [kl_123]; omega) (by decide) (by rw [kl_121]; omega) (by rw [kl_123]; omega)
      have y1 : ρ1 118 5 = (.ref (123 : Nat)) := gM.2.2.2.2.1
      have y2 : ρ1 118 7 = .long (lN s) := gS
      have y3 : ρ2 118 6 = (.ref (124 : Nat)) := gM.2.2.2.2.2.1
      simp only [w205_0, w205_1, w205_2, w205_3, w205_4, w205_7, w205_10, w205_12, w205_13, w205_14, w205_17, w205_18, w205_19, w205_22, w205_24, w205_25, w205_26, w205_28, w205_32, w205_35, w205_37, w205_38, w205_39, w205_41, w205_42, w205_43, w205_46, w205_47, w205_48, w205_49, w205_52, w205_53, w205_54, w205_55, w205_56, w205_57, w205_60, w205_61, ks_118, c_in, hin, nI_ne1, pk_mul, Nat.mul_comm i 23, show i * 23 = 23 * i from Nat.mul_comm _ _, gM.2.2.1, gM.2.2.2.2.1, e1, ↓reduceIte, Option.toList_some, Option.toList_none, List.cons_append, List.nil_append]
      simp only [w205_0, w205_1, w205_2, w205_3, w205_4, w205_7, w205_10, w205_12, w205_13, w205_14, w205_17, w205_18, w205_19, w205_22, w205_24, w205_25, w205_26, w205_28, w205_31, w205_32, w205_35, w205_37, w205_38, w205_39, w205_41, w205_42, w205_43, w205_46, w205_47, w205_49, w205_52, w205_53, w205_54, w205_55, w205_56, w205_57, w205_60, w205_61, ks_118, y1, y2, lN_i, pk_mul, nI_add, kt_123, in_nI (show 23 * i + 22 < kl 123 by rw [kl_123]; omega) (by rw [kl_123]; omega), nI_clamp (show 23 * i + 22 < 2 ^ 31 by omega), ↓reduceIte, Option.toList_some, Option.toList_none, List.cons_append, List.nil_append]
      show Wq none 205 48 [some (.ref (118 : Nat)), some (.int (nI i))] [] ρ2 _
      simp only [w205_0, w205_1, w205_2, w205_3, w205_4, w205_7, w205_10, w205_12, w205_13, w205_14, w205_17, w205_18, w205_19, w205_22, w205_24, w205_25, w205_26, w205_28, w205_31, w205_32, w205_35, w205_37, w205_38, w205_39, w205_41, w205_42, w205_43, w205_46, w205_47, w205_48, w205_49, w205_52, w205_53, w205_54, w205_55, w205_56, w205_57, w205_60, w205_61, ks_118, y3, kt_124, in_nI (show i < kl 124 by rw [kl_124]; omega) (by rw [kl_124]; omega), nI_clamp (show i < 2 ^ 31 by omega), ↓reduceIte, Option.toList_some, Option.toList_none, List.cons_append, List.nil_append, true_and]
      rfl
  · have hin := in_no (x := x) (N := 1) (by omega) hx2
    refine pr_of (v := -1000000001) (σ1 := σ) (σ2 := σ) (fun Q => Cq_of (Er_of ?_)) (fun Q => Cq_of (Er_of ?_)) hI
    · show Wq none 118 0 [some (.ref (0 : Nat)), some (.int x)] [] σ _
      by_cases h0 : x < nI 0
      · simp only [w118_0, w118_1, w118_4, w118_5, w118_6, w118_9, w118_11, w118_12, w118_13, w118_16, w118_17, w118_18, w118_21, w118_22, w118_25, w118_28, w118_29, w118_32, w118_35, w118_36, ks_0, h0, ↓reduceIte, Option.toList_some, Option.toList_none, List.cons_append, List.nil_append, and_self]
      · simp only [w118_0, w118_1, w118_4, w118_5, w118_6, w118_9, w118_11, w118_12, w118_13, w118_16, w118_17, w118_18, w118_21, w118_22, w118_25, w118_28, w118_29, w118_32, w118_35, w118_36, ks_0, h0, nlt_le h0 hx, ↓reduceIte, Option.toList_some, Option.toList_none, List.cons_append, List.nil_append, and_self]
    · show Wq none 205 0 [some (.ref (118 : Nat)), some (.int x)] [] σ _
      simp only [w205_0, w205_1, w205_2, w205_3, w205_4, w205_7, w205_10, w205_12, w205_13, w205_14, w205_17, w205_18, w205_19, w205_22, w205_24, w205_25, w205_26, w205_28, w205_31, w205_32, w205_35, w205_37, w205_38, w205_39, w205_41, w205_42, w205_43, w205_46, w205_47, w205_48, w205_49, w205_52, w205_53, w205_54, w205_55, w205_56, w205_57, w205_60, w205_61, ks_118, c_in, hin, ↓reduceIte, Option.toList_some, Option.toList_none, List.cons_append, List.nil_append, and_self]
theorem pr_goBack (x : Int32) (hI : Inv σ) : Pr Inv 119 206 [.int x] σ := by
  obtain ⟨c, n, k, p, q, im, h, hs, ht, m, bg, bx, L, tx, f, s, hWA, hCA, hMA⟩ := id hI; obtain ⟨hw, hwn, ⟨hk16, hkp⟩, ⟨hq4, hqi⟩, ⟨hh9, hhs, hht⟩, ⟨hm15, hmb⟩, ⟨hL240, htx⟩, hs31⟩ := id hWA; obtain ⟨⟨P, D, hPD, hB, hC, hD⟩, hN, hPa, hIm, hHe, hBk, hTx, hF, hS, hSc⟩ := id hCA; obtain ⟨hM, hc, hn, hmP, hmI, hmH, hmB, hmT, hmF, hmS⟩ := id hMA
  obtain ⟨b0, b3, b4, b5, b6, b7, b8, b9, b10, b11, b12⟩ := id hB
  obtain ⟨w0, w2, w3, w4, w5, w6, w7, w8, w9⟩ := id hw
  obtain ⟨m0, m1, m2, m3, m5, m6, m8, m11, m12, m14, m22, m23, m24, m25, m29, m30, m31, m32⟩ := id hM
  rcases ix_cs x (show 2 < 2 ^ 31 by omega) with ⟨i, hi, rfl⟩ | ⟨hx, hx2⟩
  · have a1 : ¬ nI i < nI 0 := nI_pos (by omega)
    have a2 : nI i < nI 2 := (nI_ltI (by omega) (by omega)).mpr hi
    have hin := in_yes (j := i) (N := 1) (by omega) (by omega)
    obtain ⟨hCI, iS, iN⟩ := id hIm
    obtain ⟨u, hu, hP, hSR, hp⟩ := id hPa
    by_cases hb : q.testBit i = true
    · obtain ⟨hNi, hsd⟩ := iN i hi hb
      obtain ⟨hwi, hs22⟩ := hqi i hi hb
      have eB := fun Q => c_imBack (Q := Q) hCI hi SK_24 hN.2.1 ⟨SK_i i hi, iS i hi⟩ (CN_iN hNi)
      let τ1 : dm_G := beF 24 (96 + 4 * i) σ
      have k1 : ∀ a b, ¬ (24 ≤ a ∧ a < 28) → τ1 a b = σ a b := fun a b z => be_out (by omega)
      have hCI1 : CI τ1 q := ⟨(k1 _ _ (by omega)).trans hCI.1, (k1 _ _ (by omega)).trans hCI.2.1, (k1 _ _ (by omega)).trans hCI.2.2.1, fun j hj => (k1 _ _ (by omega)).trans (hCI.2.2.2 j hj)⟩
      have eD := fun Q => c_imDrawn (σ := τ1) (Q := Q) hCI1 hi
      rw [gi_of (k1 _ _ (by omega)), hsd] at eD
      let τ2 : dm_G := dm_up τ1 0 12 (.int (nI (im i 22)))
      have k2 : ∀ a b, ¬ ((24 ≤ a ∧ a < 28) ∨ (a = 0 ∧ b = 12)) → τ2 a b = σ a b := fun a b z => by
        show dm_up τ1 0 12 _ a b = _
        rw [up_get, if_neg (by omega), k1 _ _ (by omega)]
      have eP := fun Q => c_pastClear (Q := Q) (σ := τ2) (CP_of (fun a b z => k2 a b (by omega)) hP)
      let τ3 : dm_G := dm_up τ2 28 2 (.int (nI 0))
      have k3 : ∀ a b, ¬ ((24 ≤ a ∧ a < 28) ∨ (a = 0 ∧ b = 12) ∨ (a = 28 ∧ b = 2)) → τ3 a b = σ a b := fun a b z => by
        show dm_up τ2 28 2 _ a b = _
        rw [up_get, if_neg (by omega), k2 _ _ (by omega)]
      have hCA2 : CA c (im i) 0 p q im h hs ht m bg bx L tx f (im i 22) τ3 := by
        refine ⟨cPl_of (fun a b z => k3 a b (by omega)) ⟨P, D, hPD, hB, hC, hD⟩, ?_, ⟨u, hu, ⟨?_, ?_, ?_, ?_⟩, fun j hj => SR_of (fun b => k3 _ b (by omega)) (hSR j hj), fun j hj => absurd hj (by omega)⟩, cIm_of (fun a b z => k3 a b (by omega)) hIm, cHe_of (fun a b z => k3 a b (by omega)) hHe, CBk_of (fun a b z => k3 a b (by omega)) hBk, cTx_of (fun a b z => k3 a b (by omega)) hTx, (k3 _ _ (by omega)).trans hF, rfl, cSc_of (fun a b z => k3 a b (by omega)) hSc⟩
        · refine CN_of (σ := τ1) (fun j b hj => ?_) (be_CN SK_24 hN.2.1 w2 hNi (Or.inl (by omega)))
          show dm_up (dm_up τ1 0 12 _) 28 2 _ (24 + j) b = _
          rw [up_get, if_neg (by omega), up_get, if_neg (by omega)]
        · exact (k3 _ _ (by omega)).trans hP.1
        · exact (k3 _ _ (by omega)).trans hP.2.1
        · rfl
        · intro j hj
          exact (k3 _ _ (by omega)).trans (hP.2.2.2 j hj)
      have hMA2 := MA_lo hMA (fun a b z => k3 a b (by omega))
      obtain ⟨gM, gc, gn, gP, gI, gH, gB, gT, gF, gS⟩ := id hMA2
      let ρ1 : dm_G := cpL τ3 123 (23 * i) 121 0 22
      let ρ2 : dm_G := dm_up ρ1 118 7 (.long (lN (im i 22)))
      let ρ3 : dm_G := dm_up ρ2 118 4 (.int (nI 0))
      have km : ∀ a b, ¬ (a = 121 ∨ (a = 118 ∧ (b = 4 ∨ b = 7))) → ρ3 a b = τ3 a b := fun a b z => by
        show dm_up (dm_up (cpL τ3 123 (23 * i) 121 0 22) 118 7 _) 118 4 _ a b = _
        rw [up_get, if_neg (by omega), up_get, if_neg (by omega)]
        unfold cpL
        rw [if_neg (by omega)]
      have hMA3 : MA c (im i) 0 p q im h hs ht m bg bx L tx f (im i 22) ρ3 := by
        refine ⟨MR_k (fun a b z => km a b (by omega)) gM, MC_k (fun a b z => km a b (by omega)) gc, fun b hb22 => ?_, ⟨rfl, fun j hj => absurd hj (by omega)⟩, mIm_k (fun a b z => km a b (by omega)) gI, MH_k (fun a b z => km a b (by omega)) gH, MB_k (fun a b z => km a b (by omega)) gB, mTx_k (fun a b z => km a b (by omega)) gT, (km _ _ (by omega)).trans gF, rfl⟩
        show gi (dm_up (dm_up (cpL τ3 123 (23 * i) 121 0 22) 118 7 _) 118 4 _) 121 b = _
        rw [gi_up, if_neg (by omega)]
        unfold gi
        rw [up_get, if_neg (by omega)]
        unfold cpL
        rw [if_pos ⟨rfl, Nat.zero_le _, by omega⟩, Nat.sub_zero]
        exact (gI i hi).2 hb b (by omega)
      refine pr_of (v := nI 1) (σ1 := τ3) (σ2 := ρ3) (fun Q => Cq_of (Er_of ?_)) (fun Q => Cq_of (Er_of ?_)) (inv_mk (s := im i 22) ⟨hw, hwi, ⟨by omega, fun j hj => absurd hj (by omega)⟩, ⟨hq4, hqi⟩, ⟨hh9, hhs, hht⟩, ⟨hm15, hmb⟩, ⟨hL240, htx⟩, hs22⟩ hCA2 (fun a b z => km a b (by omega)) hMA3)
      · show Wq none 119 0 [some (.ref (0 : Nat)), some (.int (nI i))] [] σ _
        have x1 : τ1 0 7 = (.ref (94 : Nat)) := b8
        have x2 : τ2 0 6 = (.ref (28 : Nat)) := b7
        have eB' : ∀ Q : Option Value → dm_G → Prop, Cq 34 [(.ref (94 : Nat)), .int (nI i), (.ref (24 : Nat))] σ Q = Q none τ1 := eB
        have eP' : ∀ Q : Option Value → dm_G → Prop, Cq 47 [(.ref (28 : Nat))] τ2 Q = Q none τ3 := eP
        simp only [w119_0, w119_1, w119_4, w119_5, w119_6, w119_9, w119_11, w119_12, w119_13, w119_16, w119_17, w119_20, w119_23, w119_25, w119_26, w119_27, w119_30, w119_31, w119_32, w119_35, w119_38, w119_39, w119_40, w119_43, w119_44, w119_47, w119_51, w119_54, w119_57, w119_58, ks_0, ks_94, a1, a2, b6, b8, c_imHas hCI hq4 hi, hb, nI_ne1, eB', x1, eD, ↓reduceIte, Option.toList_some, Option.toList_none, List.cons_append, List.nil_append]
        show Wq none 119 50 [some (.ref (0 : Nat)), some (.int (nI i))] [] τ2 _
        simp only [w119_0, w119_1, w119_4, w119_5, w119_6, w119_9, w119_11, w119_12, w119_13, w119_16, w119_17, w119_20, w119_23, w119_25, w119_26, w119_27, w119_30, w119_31, w119_32, w119_35, w119_38, w119_39, w119_40, w119_43, w119_44, w119_47, w119_50, w119_51, w119_54, w119_57, w119_58, ks_0, ks_28, x2, eP', ↓reduceIte, Option.toList_some, Option.toList_none, List.cons_append, List.nil_append, and_self]
      · show Wq none 206 0 [some (.ref (118 : Nat)), some (.int (nI i))] [] τ3 _
        have e1 : ∀ Q : Option Value → dm_G → Prop, Cq 130 [(.ref (123 : Nat)), .int (nI (23 * i)), (.ref (121 : Nat)), .int (nI 0), .int (nI 22)] τ3 Q = Q none ρ1 := fun Q => c_copies kt_123 kt_121 (by rw [kl_123]; omega) (by rw [kl_121]; omega) (by decide) (by rw [kl_123]; omega) (by rw [kl_121]; omega)
        have y1 : ρ1 118 5 = (.ref (123 : Nat)) := gM.2.2.2.2.1
        have y2 : gi ρ1 123 (23 * i + 22) = nI (im i 22) := by
          rw [gi_of (σ := τ3) (by show cpL τ3 123 (23 * i) 121 0 22 123 _ = _; unfold cpL; rw [if_neg (by omega)])]
          exact (gI i hi).2 hb 22 (by omega)
        have y0 := (gI i hi).1
        simp only [w206_0, w206_1, w206_2, w206_3, w206_4, w206_7, w206_10, w206_12, w206_13, w206_14, w206_17, w206_18, w206_19, w206_22, w206_24, w206_25, w206_26, w206_29, w206_31, w206_32, w206_33, w206_34, w206_37, w206_38, w206_40, w206_44, w206_45, w206_48, w206_50, w206_51, w206_52, w206_54, w206_55, w206_56, w206_57, w206_60, w206_61, w206_62, w206_65, w206_66, ks_118, c_in, hin, nI_ne1, gM.2.2.2.2.2.1, kt_124, in_nI (show i < kl 124 by rw [kl_124]; omega) (by rw [kl_124]; omega), nI_clamp (show i < 2 ^ 31 by omega), y0, hb, gM.2.2.2.2.1, gM.2.2.1, pk_mul, show i * 23 = 23 * i from Nat.mul_comm _ _, e1, ↓reduceIte, Option.toList_some, Option.toList_none, List.cons_append, List.nil_append]
        simp only [w206_0, w206_1, w206_2, w206_3, w206_4, w206_7, w206_10, w206_12, w206_13, w206_14, w206_17, w206_18, w206_19, w206_22, w206_24, w206_25, w206_26, w206_29, w206_31, w206_32, w206_33, w206_34, w206_37, w206_38, w206_40, w206_43, w206_44, w206_45, w206_48, w206_50, w206_51, w206_52, w206_54, w206_55, w206_56, w206_57, w206_61, w206_62, w206_65, w206_66, ks_118, y1, pk_mul, show i * 23 = 23 * i from Nat.mul_comm _ _, nI_add, kt_123, in_nI (show 23 * i + 22 < kl 123 by rw [kl_123]; omega) (by rw [kl_123]; omega), nI_clamp (show 23 * i + 22 < 2 ^ 31 by omega), y2, nI_l hs22, ↓reduceIte, Option.toList_some, Option.toList_none, List.cons_append, List.nil_append]
        show Wq none 206 60 [some (.ref (118 : Nat)), some (.int (nI i))] [] ρ2 _
        simp only [w206_0, w206_1, w206_2, w206_3, w206_4, w206_7, w206_10, w206_12, w206_13, w206_14, w206_17, w206_18, w206_19, w206_22, w206_24, w206_25, w206_26, w206_29, w206_31, w206_32, w206_33, w206_34, w206_37, w206_38, w206_40, w206_43, w206_44, w206_45, w206_48, w206_50, w206_51, w206_52, w206_54, w206_55, w206_56, w206_57, w206_60, w206_61, w206_62, w206_65, w206_66, ks_118, ↓reduceIte, Option.toList_some, Option.toList_none, List.cons_append, List.nil_append, true_and]
        rfl
    · have y0 := (hmI i hi).1
      refine pr_of (v := -1000000003) (σ1 := σ) (σ2 := σ) (fun Q => Cq_of (Er_of ?_)) (fun Q => Cq_of (Er_of ?_)) hI
      · show Wq none 119 0 [some (.ref (0 : Nat)), some (.int (nI i))] [] σ _
        simp only [w119_0, w119_1, w119_4, w119_5, w119_6, w119_9, w119_11, w119_12, w119_13, w119_16, w119_17, w119_20, w119_23, w119_25, w119_26, w119_27, w119_30, w119_31, w119_32, w119_35, w119_38, w119_39, w119_40, w119_43, w119_44, w119_47, w119_50, w119_51, w119_54, w119_57, w119_58, ks_0, ks_94, a1, a2, b8, c_imHas hCI hq4 hi, hb, ↓reduceIte, Option.toList_some, Option.toList_none, List.cons_append, List.nil_append, and_self, Bool.false_eq_true]
      · show Wq none 206 0 [some (.ref (118 : Nat)), some (.int (nI i))] [] σ _
        simp only [w206_0, w206_1, w206_2, w206_3, w206_4, w206_7, w206_10, w206_12, w206_13, w206_14, w206_17, w206_18, w206_19, w206_22, w206_24, w206_25, w206_26, w206_29, w206_31, w206_32, w206_33, w206_34, w206_37, w206_38, w206_40, w206_43, w206_44, w206_45, w206_48, w206_50, w206_51, w206_52, w206_54, w206_55, w206_56, w206_57, w206_60, w206_61, w206_62, w206_65, w206_66, ks_118, c_in, hin, nI_ne1, m6, kt_124, in_nI (show i < kl 124 by rw [kl_124]; omega) (by rw [kl_124]; omega), nI_clamp (show i < 2 ^ 31 by omega), y0, hb, ↓reduceIte, Option.toList_some, Option.toList_none, List.cons_append, List.nil_append, and_self, Bool.false_eq_true]
  · have hin := in_no (x := x) (N := 1) (by omega) hx2
    refine pr_of (v := -1000000001) (σ1 := σ) (σ2 := σ) (fun Q => Cq_of (Er_of ?_)) (fun Q => Cq_of (Er_of ?_)) hI
    · show Wq none 119 0 [some (.ref (0 : Nat)), some (.int x)] [] σ _
      by_cases h0 : x < nI 0
      · simp only [w119_0, w119_1, w119_4, w119_5, w119_6, w119_9, w119_11, w119_12, w119_13, w119_16, w119_17, w119_20, w119_23, w119_25, w119_26, w119_27, w119_30, w119_31, w119_32, w119_35, w119_38, w119_39, w119_40, w119_43, w119_44, w119_47, w119_50, w119_51, w119_54, w119_57, w119_58, ks_0, h0, ↓reduceIte, Option.toList_some, Option.toList_none, List.cons_append, List.nil_append, and_self]
      · simp only [w119_0, w119_1, w119_4, w119_5, w119_6, w119_9, w119_11, w119_12, w119_13, w119_16, w119_17, w119_20, w119_23, w119_25, w119_26, w119_27, w119_30, w119_31, w119_32, w119_35, w119_38, w119_39, w119_40, w119_43, w119_44, w119_47, w119_50, w119_51, w119_54, w119_57, w119_58, ks_0, h0, nlt_le h0 hx, ↓reduceIte, Option.toList_some, Option.toList_none, List.cons_append, List.nil_append, and_self]
    · show Wq none 206 0 [some (.ref (118 : Nat)), some (.int x)] [] σ _
      simp only [w206_0, w206_1, w206_2, w206_3, w206_4, w206_7, w206_10, w206_12, w206_13, w206_14, w206_17, w206_18, w206_19, w206_22, w206_24, w206_25, w206_26, w206_29, w206_31, w206_32, w206_33, w206_34, w206_37, w206_38, w206_40, w206_43, w206_44, w206_45, w206_48, w206_50, w206_51, w206_52, w206_54, w206_55, w206_56, w206_57, w206_60, w206_61, w206_62, w206_65, w206_66, ks_118, c_in, hin, ↓reduceIte, Option.toList_some, Option.toList_none, List.cons_append, List.nil_append, and_self]
end IM
