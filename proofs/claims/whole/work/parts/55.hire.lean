/-! hired: both sides -/
/-- how all is behind a hire at the price -/
def hiN (c n : Nat → Nat) (g e pr : Nat) : Nat → Nat := fun i => if i = 21 then min (n 21 + pr) 999999 else if i = 18 then n 18 ||| 1 <<< e else if i = g then c (61 + e) else if i = 12 + g then n (12 + g) ||| 1 <<< e else n i
section HR
variable {σ σ' : dm_G} {Q : Option Value → dm_G → Prop} {c n : Nat → Nat} {k : Nat} {p : Nat → Nat → Nat} {q : Nat} {im : Nat → Nat → Nat} {h : Nat} {hs ht : Nat → Nat} {m : Nat} {bg bx : Nat → Nat} {L : Nat} {tx : Nat → Nat} {f : Int32} {s : Nat}
theorem WN_hi {g e pr : Nat} (hw : WC c) (hwn : WN c n) (hg : g < c 2) (he : e < c 3) : WN c (hiN c n g e pr) := by
  obtain ⟨w0, w2, w3, w4, w5, w6, w7, w8, w9⟩ := id hw
  obtain ⟨hn1, hn18, hn19, hn20, hn21⟩ := id hwn
  refine ⟨fun x hx => ?_, ?_, ?_, ?_, ?_⟩
  · obtain ⟨a1, a2, a3⟩ := hn1 x hx
    refine ⟨?_, ?_, ?_⟩
    · unfold hiN
      rw [if_neg (by omega), if_neg (by omega)]
      split
      · exact (w8 e he).2
      · rw [if_neg (by omega)]; exact a1
    · unfold hiN
      rw [if_neg (by omega), if_neg (by omega), if_neg (by omega), if_neg (by omega)]
      exact a2
    · unfold hiN
      rw [if_neg (by omega), if_neg (by omega), if_neg (by omega)]
      split
      · exact or_lt (hn1 g hg).2.2 (one_shl he)
      · exact a3
  · unfold hiN
    rw [if_neg (by omega), if_pos rfl]
    exact or_lt hn18 (one_shl he)
  · unfold hiN
    rw [if_neg (by omega), if_neg (by omega), if_neg (by omega), if_neg (by omega)]
    exact hn19
  · unfold hiN
    rw [if_neg (by omega), if_neg (by omega), if_neg (by omega), if_neg (by omega)]
    exact hn20
  · unfold hiN
    rw [if_pos rfl]
    exact Nat.min_le_right _ _
theorem c_leadA {g e d : Nat} (hWA : WA c n k p q im h hs ht m bg bx L tx s) (hCA : CA c n k p q im h hs ht m bg bx L tx f s σ) (hg : g < c 2) (he : e < c 3) (hd : d ≤ 8) : ∃ τ, (∀ Q : Option Value → dm_G → Prop, Cq 97 [(.ref (0 : Nat)), .int (nI g), .int (nI e), .int (nI d)] σ Q = Q (some (.int (nI (csN c (n 20) g d)))) τ) ∧ CA c (hiN c n g e (csN c (n 20) g d)) k p q im h hs ht m bg bx L tx f s τ ∧ ∀ a b, 118 ≤ a → τ a b = σ a b := by
  obtain ⟨hw, hwn, ⟨hk16, hkp⟩, ⟨hq4, hqi⟩, ⟨hh9, hhs, hht⟩, ⟨hm15, hmb⟩, ⟨hL240, htx⟩, hs31⟩ := id hWA
  obtain ⟨⟨P, D, hPD, hB, hC, hD⟩, hN, hPa, hIm, hHe, hBk, hTx, hF, hS, hSc⟩ := id hCA
  obtain ⟨b0, b3, b4, b5, b6, b7, b8, b9, b10, b11, b12⟩ := id hB
  obtain ⟨w0, w2, w3, w4, w5, w6, w7, w8, w9⟩ := id hw
  obtain ⟨⟨kP, ⟨t1, l1⟩, ⟨t2, l2⟩, ⟨t3, l3⟩, ⟨t4, l4⟩, ⟨t5, l5⟩, ⟨t6, l6⟩, ⟨t7, l7⟩, ⟨t8, l8⟩, ⟨t9, l9⟩⟩, ⟨r1, r2, r3, r4, r5, r6, r7, r8, r9⟩, ⟨i0, i2, i3, i4⟩, f1, f2, f3, f4, f5, f6, f7⟩ := id hC
  obtain ⟨⟨kS, ⟨u1, v1⟩, ⟨u2, v2⟩, ⟨u3, v3⟩⟩, ⟨q0, q1, q2⟩, ⟨j3, j4, j5, j6⟩, jf⟩ := id hN
  obtain ⟨hn1, hn18, hn19, hn20, hn21⟩ := id hwn
  have hpr := csN_lt (k := n 20) hw hg hd
  generalize hp : csN c (n 20) g d = pr at hpr ⊢
  have hpq := fun Q => c_priceOf (Q := Q) hB hC hN hw hwn hg hd
  rw [hp] at hpq
  have p6 : 2 ^ c 3 ≤ 2 ^ 6 := Nat.pow_le_pow_right (by decide) w3
  have h0 : ∀ (τ : dm_G) b, (∀ a, a < 24 → τ a = σ a) → τ 0 b = σ 0 b := fun τ b z => by rw [z 0 (by omega)]
  let τ1 := dm_up σ 24 6 (.int (nI (min (n 21 + pr) 999999)))
  let τ2 := dm_up τ1 24 4 (.int (nI (n 18 ||| 1 <<< e)))
  let τ3 := dm_up τ2 25 g (.int (nI (c (61 + e))))
  let τ4 := dm_up τ3 27 g (.int (nI (n (12 + g) ||| 1 <<< e)))
  have x1 : τ1 0 5 = (.ref (24 : Nat)) := b6
  have x2 : τ2 0 5 = (.ref (24 : Nat)) := b6
  have x2p : τ2 0 4 = .ref P := b4
  have x3 : τ3 0 5 = (.ref (24 : Nat)) := b6
  have y1 : τ1 24 4 = .int (nI (n 18)) := j4
  have y2 : τ2 24 0 = .ref (24 + 1) := q0
  have y3 : τ3 24 2 = .ref (24 + 3) := q2
  have z2 : τ2 P 12 = .ref (P + 8) := by
    show dm_up (dm_up σ 24 6 _) 24 4 _ P 12 = _
    rw [up_get, if_neg (by omega), up_get, if_neg (by omega)]
    exact r8
  have z3 : gi τ2 (P + 8) e = nI (c (61 + e)) := by
    rw [gi_of (σ := σ) (show dm_up (dm_up σ 24 6 _) 24 4 _ (P + 8) e = _ from by rw [up_get, if_neg (by omega), up_get, if_neg (by omega)])]
    exact (f5 e he).2
  have z4 : gi τ3 (24 + 3) g = nI (n (12 + g)) := by
    rw [gi_of (σ := σ) (show dm_up (dm_up (dm_up σ 24 6 _) 24 4 _) 25 g _ (24 + 3) g = _ from by rw [up_get, if_neg (by omega), up_get, if_neg (by omega), up_get, if_neg (by omega)])]
    exact (jf g hg).2.2
  refine ⟨τ4, fun Q => Cq_of (Er_of ?_), ?_, ?_⟩
  · show Wq none 97 0 [some (.ref (0 : Nat)), some (.int (nI g)), some (.int (nI e)), some (.int (nI d)), none] [] σ _
    simp only [w97_0, w97_1, w97_2, w97_3, w97_6, w97_8, w97_9, w97_12, w97_13, w97_16, w97_19, w97_21, w97_22, w97_24, w97_27, w97_31, w97_34, w97_34i, w97_35, w97_38, w97_39, w97_40, w97_41, w97_42, w97_45, w97_46, w97_49, w97_52, w97_53, w97_54, w97_57, w97_60, w97_61, w97_64, w97_67, w97_68, w97_71, w97_74, w97_75, w97_76, w97_79, w97_82, w97_83, w97_86, w97_87, w97_88, w97_89, w97_90, w97_93, w97_95, ks_0, ks_24, hpq, b6, j6, nI_add, nI_mn (show n 21 + pr < 2 ^ 31 by omega) (show 999999 < 2 ^ 31 by omega), ↓reduceIte, Option.toList_some, Option.toList_none, List.cons_append, List.nil_append]
    show Wq none 97 30 [some (.ref (0 : Nat)), some (.int (nI g)), some (.int (nI e)), some (.int (nI d)), some (.int (nI pr))] [] τ1 _
    simp only [w97_0, w97_1, w97_2, w97_3, w97_6, w97_8, w97_9, w97_12, w97_13, w97_16, w97_19, w97_21, w97_22, w97_24, w97_27, w97_30, w97_31, w97_34, w97_34i, w97_35, w97_38, w97_39, w97_40, w97_41, w97_42, w97_46, w97_49, w97_52, w97_53, w97_54, w97_57, w97_60, w97_61, w97_64, w97_67, w97_68, w97_71, w97_74, w97_75, w97_76, w97_79, w97_82, w97_83, w97_86, w97_87, w97_88, w97_89, w97_90, w97_93, w97_95, ks_0, ks_24, x1, y1, nI_shl 1 (show e < 32 by omega), nI_or, ↓reduceIte, Option.toList_some, Option.toList_none, List.cons_append, List.nil_append]
    show Wq none 97 45 [some (.ref (0 : Nat)), some (.int (nI g)), some (.int (nI e)), some (.int (nI d)), some (.int (nI pr))] [] τ2 _
    simp only [w97_0, w97_1, w97_2, w97_3, w97_6, w97_8, w97_9, w97_12, w97_13, w97_16, w97_19, w97_21, w97_22, w97_24, w97_27, w97_30, w97_31, w97_34, w97_34i, w97_35, w97_38, w97_39, w97_40, w97_41, w97_42, w97_45, w97_46, w97_49, w97_52, w97_53, w97_54, w97_57, w97_60, w97_61, w97_64, w97_68, w97_71, w97_74, w97_75, w97_76, w97_79, w97_82, w97_83, w97_86, w97_87, w97_88, w97_89, w97_90, w97_93, w97_95, ks_0, ks_24, kP, x2, x2p, y2, z2, c_at t8 (show e < kl (P + 8) by rw [l8]; omega) (by rw [l8]; omega), z3, c_put u1 (show g < kl (24 + 1) by rw [v1]; omega) (by rw [v1]; omega), ↓reduceIte, Option.toList_some, Option.toList_none, List.cons_append, List.nil_append]
    show Wq none 97 67 [some (.ref (0 : Nat)), some (.int (nI g)), some (.int (nI e)), some (.int (nI d)), some (.int (nI pr))] [] τ3 _
    simp only [w97_0, w97_1, w97_2, w97_3, w97_6, w97_8, w97_9, w97_12, w97_13, w97_16, w97_19, w97_21, w97_22, w97_24, w97_27, w97_30, w97_31, w97_34, w97_34i, w97_35, w97_38, w97_39, w97_40, w97_41, w97_42, w97_45, w97_46, w97_49, w97_52, w97_53, w97_54, w97_57, w97_60, w97_61, w97_64, w97_67, w97_68, w97_71, w97_74, w97_75, w97_76, w97_79, w97_82, w97_83, w97_86, w97_87, w97_88, w97_89, w97_90, w97_93, w97_95, ks_0, ks_24, x3, y3, c_at u3 (show g < kl (24 + 3) by rw [v3]; omega) (by rw [v3]; omega), z4, nI_shl 1 (show e < 32 by omega), nI_or, c_put u3 (show g < kl (24 + 3) by rw [v3]; omega) (by rw [v3]; omega), ↓reduceIte, Option.toList_some, Option.toList_none, List.cons_append, List.nil_append, true_and]
    rfl
  · refine CA_now hCA (fun a b z => ?_) ?_
    · show dm_up (dm_up (dm_up (dm_up σ 24 6 _) 24 4 _) 25 g _) 27 g _ a b = _
      rw [up_get, if_neg (by omega), up_get, if_neg (by omega), up_get, if_neg (by omega), up_get, if_neg (by omega)]
    · have nn : ∀ i, ¬ (i = 21 ∨ i = 18 ∨ i = g ∨ i = 12 + g) → hiN c n g e pr i = n i := fun i z => by
        unfold hiN
        rw [if_neg (by omega), if_neg (by omega), if_neg (by omega), if_neg (by omega)]
      refine ⟨SK_24, ⟨q0, q1, q2⟩, ⟨?_, ?_, ?_, ?_⟩, fun x hx => ⟨?_, ?_, ?_⟩⟩
      · rw [nn 19 (by omega)]; exact j3
      · show (.int (nI (n 18 ||| 1 <<< e)) : Value) = _
        unfold hiN
        rw [if_neg (by omega), if_pos rfl]
      · rw [nn 20 (by omega)]; exact j5
      · show (.int (nI (min (n 21 + pr) 999999)) : Value) = _
        unfold hiN
        rw [if_pos rfl]
      · show gi (dm_up (dm_up (dm_up (dm_up σ 24 6 _) 24 4 _) 25 g _) 27 g _) 25 x = _
        rw [gi_up, if_neg (by omega), gi_up]
        by_cases z : x = g
        · rw [if_pos ⟨rfl, z⟩]
          unfold hiN
          rw [if_neg (by omega), if_neg (by omega), if_pos z]
        · rw [if_neg (fun w => z w.2), gi_up, if_neg (by omega), gi_up, if_neg (by omega), nn x (by omega)]
          exact (jf x hx).1
      · show gi (dm_up (dm_up (dm_up (dm_up σ 24 6 _) 24 4 _) 25 g _) 27 g _) 26 x = _
        rw [gi_up, if_neg (by omega), gi_up, if_neg (by omega), gi_up, if_neg (by omega), gi_up, if_neg (by omega), nn (6 + x) (by omega)]
        exact (jf x hx).2.1
      · show gi (dm_up (dm_up (dm_up (dm_up σ 24 6 _) 24 4 _) 25 g _) 27 g _) 27 x = _
        rw [gi_up]
        by_cases z : x = g
        · rw [if_pos ⟨rfl, z⟩]
          unfold hiN
          rw [if_neg (by omega), if_neg (by omega), if_neg (by omega), if_pos (by omega)]
        · rw [if_neg (fun w => z w.2), gi_up, if_neg (by omega), gi_up, if_neg (by omega), gi_up, if_neg (by omega), nn (12 + x) (by omega)]
          exact (jf x hx).2.2
  · intro a b z
    show dm_up (dm_up (dm_up (dm_up σ 24 6 _) 24 4 _) 25 g _) 27 g _ a b = _
    rw [up_get, if_neg (by omega), up_get, if_neg (by omega), up_get, if_neg (by omega), up_get, if_neg (by omega)]
theorem MA_129 (hMA : MA c n k p q im h hs ht m bg bx L tx f s σ) (hk : ∀ a, a ≠ 129 → σ' a = σ a) : MA c n k p q im h hs ht m bg bx L tx f s σ' := MA_of (fun a b z => by
  unfold scM at z
  rw [hk a (by omega)]) hMA
theorem c_mayA {g e : Nat} (hWA : WA c n k p q im h hs ht m bg bx L tx s) (hMA : MA c n k p q im h hs ht m bg bx L tx f s σ) (hg : g < c 2) (he : e < c 3) : ∃ τ, (∀ Q : Option Value → dm_G → Prop, Cq 169 [(.ref (118 : Nat)), .int (nI g), .int (nI e)] σ Q = Q (some (.int (if lwN c n g e = none then nI 0 else nI 1))) τ) ∧ ∀ a, a ≠ 129 → τ a = σ a := by
  obtain ⟨hw, hwn, ⟨hk16, hkp⟩, ⟨hq4, hqi⟩, ⟨hh9, hhs, hht⟩, ⟨hm15, hmb⟩, ⟨hL240, htx⟩, hs31⟩ := id hWA
  obtain ⟨hM, hc, hn, hmP, hmI, hmH, hmB, hmT, hmF, hmS⟩ := id hMA
  obtain ⟨m0, m1, m2, m3, m5, m6, m8, m11, m12, m14, m22, m23, m24, m25, m29, m30, m31, m32⟩ := id hM
  obtain ⟨w0, w2, w3, w4, w5, w6, w7, w8, w9⟩ := id hw
  obtain ⟨hn1, hn18, hn19, hn20, hn21⟩ := id hwn
  have p6 : 2 ^ c 3 ≤ 2 ^ 6 := Nat.pow_le_pow_right (by decide) w3
  have p8 : 2 ^ c 0 ≤ 2 ^ 8 := Nat.pow_le_pow_right (by decide) hw.1
  have g31 : n (6 + g) < 2 ^ 31 := by have := (hwn.1 g hg).2.1; omega
  obtain ⟨x1, x2⟩ := w8 e he
  refine ⟨afF σ c n g e, fun Q => Cq_of (Er_of ?_), fun a z => afF_cell z⟩
  show Wq none 169 0 [some (.ref (118 : Nat)), some (.int (nI g)), some (.int (nI e))] [] σ _
  unfold afF lwN
  by_cases hb : (n 18).testBit e = true
  · simp only [w169_0, w169_1, w169_4, w169_6, w169_7, w169_8, w169_11, w169_14, w169_15, w169_16, w169_17, w169_20, w169_22, w169_25, w169_26, w169_29, w169_30, ks_118, m2, kt_121, in_nI (show 18 < kl 121 by rw [kl_121]; omega) (by rw [kl_121]; omega), nI_clamp (show 18 < 2 ^ 31 by omega), hn 18 (by omega), c_has (show n 18 < 2 ^ 31 by omega) (show e < 32 by omega), hb, nI_ne1, (by decide : nI 1 &&& 1 = nI 1), (by decide : nI 0 &&& 1 = nI 0), ↓reduceIte, Option.toList_some, Option.toList_none, List.cons_append, List.nil_append, and_self]
  · cases hs' : sbN c (c (55 + e)) (c (61 + e)) (andn (n (6 + g)) (n 19)) with
    | none =>
      have hl := lay_fn hw x1 x2 hs'
      simp only [w169_0, w169_1, w169_4, w169_6, w169_7, w169_8, w169_11, w169_14, w169_15, w169_16, w169_17, w169_20, w169_22, w169_25, w169_26, w169_29, w169_30, ks_118, m2, kt_121, in_nI (show 18 < kl 121 by rw [kl_121]; omega) (by rw [kl_121]; omega), nI_clamp (show 18 < 2 ^ 31 by omega), hn 18 (by omega), c_has (show n 18 < 2 ^ 31 by omega) (show e < 32 by omega), hb, c_streets hM hc hn hw hg he g31, hl, (by decide : nI 100000000 ≤ nI 100000000), hs', (by decide : nI 1 &&& 1 = nI 1), (by decide : nI 0 &&& 1 = nI 0), ↓reduceIte, Option.toList_some, Option.toList_none, List.cons_append, List.nil_append, and_self, Bool.false_eq_true]
    | some d =>
      obtain ⟨e1, e2, e3⟩ := lay_fs hw x1 x2 hs'
      simp only [w169_0, w169_1, w169_4, w169_6, w169_7, w169_8, w169_11, w169_14, w169_15, w169_16, w169_17, w169_20, w169_22, w169_25, w169_26, w169_29, w169_30, ks_118, m2, kt_121, in_nI (show 18 < kl 121 by rw [kl_121]; omega) (by rw [kl_121]; omega), nI_clamp (show 18 < 2 ^ 31 by omega), hn 18 (by omega), c_has (show n 18 < 2 ^ 31 by omega) (show e < 32 by omega), hb, c_streets hM hc hn hw hg he g31, e1, e3, hs', (by decide : nI 1 &&& 1 = nI 1), (by decide : nI 0 &&& 1 = nI 0), ↓reduceIte, Option.toList_some, Option.toList_none, List.cons_append, List.nil_append, and_self, Bool.false_eq_true, reduceCtorEq]
theorem c_hiresA {g e d : Nat} (hWA : WA c n k p q im h hs ht m bg bx L tx s) (hMA : MA c n k p q im h hs ht m bg bx L tx f s σ) (hg : g < c 2) (he : e < c 3) (hl : lwN c n g e = some d) : ∃ τ, (∀ Q : Option Value → dm_G → Prop, Cq 170 [(.ref (118 : Nat)), .int (nI g), .int (nI e)] σ Q = Q (some (.int (nI (csN c (n 20) g d)))) τ) ∧ MA c (hiN c n g e (csN c (n 20) g d)) k p q im h hs ht m bg bx L tx f s τ ∧ ∀ a b, a < 118 → τ a b = σ a b := by
  obtain ⟨hw, hwn, ⟨hk16, hkp⟩, ⟨hq4, hqi⟩, ⟨hh9, hhs, hht⟩, ⟨hm15, hmb⟩, ⟨hL240, htx⟩, hs31⟩ := id hWA
  obtain ⟨w0, w2, w3, w4, w5, w6, w7, w8, w9⟩ := id hw
  obtain ⟨hn1, hn18, hn19, hn20, hn21⟩ := id hwn
  have hd8 : d ≤ 8 := by have := lwN_lt hl; omega
  have hpr := csN_lt (k := n 20) hw hg hd8
  have p6 : 2 ^ c 3 ≤ 2 ^ 6 := Nat.pow_le_pow_right (by decide) w3
  have p8 : 2 ^ c 0 ≤ 2 ^ 8 := Nat.pow_le_pow_right (by decide) hw.1
  have g31 : n (6 + g) < 2 ^ 31 := by have := (hwn.1 g hg).2.1; omega
  have h31 : n (12 + g) < 2 ^ 31 := by have := (hwn.1 g hg).2.2; omega
  obtain ⟨y1, y2⟩ := w8 e he
  have hs' : sbN c (c (55 + e)) (c (61 + e)) (andn (n (6 + g)) (n 19)) = some d := by
    unfold lwN at hl
    split at hl
    · cases hl
    · exact hl
  obtain ⟨e1, e2, e3⟩ := lay_fs hw y1 y2 hs'
  obtain ⟨hM', hc', hn', -⟩ := id hMA
  have hst := fun Q => c_streets (Q := Q) hM' hc' hn' hw hg he g31
  rw [e1] at hst
  have hMA := MA_129 (σ' := aset σ (lay c (andn (n (6 + g)) (n 19)) (c (61 + e)))) hMA (fun a z => aset_cell z)
  have hlo : ∀ a b, a < 118 → aset σ (lay c (andn (n (6 + g)) (n 19)) (c (61 + e))) a b = σ a b := fun a b z => by rw [aset_cell (by omega)]
  generalize aset σ (lay c (andn (n (6 + g)) (n 19)) (c (61 + e))) = ρ at hst hMA hlo
  obtain ⟨hM, hc, hn, hmP, hmI, hmH, hmB, hmT, hmF, hmS⟩ := id hMA
  obtain ⟨m0, m1, m2, m3, m5, m6, m8, m11, m12, m14, m22, m23, m24, m25, m29, m30, m31, m32⟩ := id hM
  have hco := fun Q => c_cost (Q := Q) hM hc hn hw (show n 20 < 2 ^ 31 by omega) hg hd8
  generalize csN c (n 20) g d = pr at hpr hco ⊢
  let τ1 := dm_up ρ 121 21 (.int (nI (min 999999 (n 21 + pr))))
  let τ2 := dm_up τ1 121 18 (.int (nI (n 18 ||| 1 <<< e)))
  let τ3 := dm_up τ2 121 g (.int (nI (c (61 + e))))
  let τ4 := dm_up τ3 121 (12 + g) (.int (nI (n (12 + g) ||| 1 <<< e)))
  have x1 : τ1 118 2 = (.ref (121 : Nat)) := m2
  have x2 : τ2 118 2 = (.ref (121 : Nat)) := m2
  have x20 : τ2 118 0 = (.ref (119 : Nat)) := m0
  have x3 : τ3 118 2 = (.ref (121 : Nat)) := m2
  have z1 : gi τ1 121 18 = nI (n 18) := by
    show gi (dm_up ρ 121 21 _) 121 18 = _
    rw [gi_up, if_neg (by omega)]
    exact hn 18 (by omega)
  have z2 : gi τ2 119 (61 + e) = nI (c (61 + e)) := hc (61 + e) (by omega)
  have z3 : gi τ3 121 (12 + g) = nI (n (12 + g)) := by
    show gi (dm_up (dm_up (dm_up ρ 121 21 _) 121 18 _) 121 g _) 121 (12 + g) = _
    rw [gi_up, if_neg (by omega), gi_up, if_neg (by omega), gi_up, if_neg (by omega)]
    exact hn (12 + g) (by omega)
  refine ⟨τ4, fun Q => Cq_of (Er_of ?_), ?_, ?_⟩
  · show Wq none 170 0 [some (.ref (118 : Nat)), some (.int (nI g)), some (.int (nI e)), none] [] σ _
    simp only [w170_0, w170_1, w170_2, w170_3, w170_4, w170_5, w170_8, w170_11, w170_12, w170_13, w170_16, w170_18, w170_20, w170_21, w170_24, w170_26, w170_27, w170_28, w170_29, w170_32, w170_34, w170_37, w170_39, w170_40, w170_41, w170_42, w170_43, w170_44, w170_45, w170_46, w170_47, w170_50, w170_51, w170_52, w170_53, w170_54, w170_57, w170_59, w170_60, w170_61, w170_62, w170_63, w170_64, w170_67, w170_69, w170_70, w170_71, w170_72, w170_73, w170_74, w170_75, w170_76, w170_77, w170_78, w170_79, ks_118, hst, hco, m2, kt_121, in_nI (show 21 < kl 121 by rw [kl_121]; omega) (by rw [kl_121]; omega), nI_clamp (show 21 < 2 ^ 31 by omega), hn 21 (by omega), nI_add, c_lesser (show 999999 < 2 ^ 31 by omega) (show n 21 + pr < 2 ^ 31 by omega), ↓reduceIte, Option.toList_some, Option.toList_none, List.cons_append, List.nil_append]
    show Wq none 170 33 [some (.ref (118 : Nat)), some (.int (nI g)), some (.int (nI e)), some (.int (nI pr))] [] τ1 _
    simp only [w170_0, w170_1, w170_2, w170_3, w170_4, w170_5, w170_8, w170_11, w170_12, w170_13, w170_16, w170_18, w170_20, w170_21, w170_24, w170_26, w170_27, w170_28, w170_29, w170_32, w170_33, w170_34, w170_37, w170_39, w170_40, w170_41, w170_42, w170_43, w170_44, w170_45, w170_47, w170_50, w170_51, w170_52, w170_53, w170_54, w170_57, w170_59, w170_60, w170_61, w170_62, w170_63, w170_64, w170_67, w170_69, w170_70, w170_71, w170_72, w170_73, w170_74, w170_75, w170_76, w170_77, w170_78, w170_79, ks_118, x1, kt_121, in_nI (show 18 < kl 121 by rw [kl_121]; omega) (by rw [kl_121]; omega), nI_clamp (show 18 < 2 ^ 31 by omega), z1, nI_shl 1 (show e < 32 by omega), nI_or, ↓reduceIte, Option.toList_some, Option.toList_none, List.cons_append, List.nil_append]
    show Wq none 170 46 [some (.ref (118 : Nat)), some (.int (nI g)), some (.int (nI e)), some (.int (nI pr))] [] τ2 _
    simp only [w170_0, w170_1, w170_2, w170_3, w170_4, w170_5, w170_8, w170_11, w170_12, w170_13, w170_16, w170_18, w170_20, w170_21, w170_24, w170_26, w170_27, w170_28, w170_29, w170_32, w170_33, w170_34, w170_37, w170_39, w170_40, w170_41, w170_42, w170_43, w170_44, w170_45, w170_46, w170_47, w170_50, w170_51, w170_52, w170_53, w170_54, w170_57, w170_59, w170_60, w170_61, w170_62, w170_64, w170_67, w170_69, w170_70, w170_71, w170_72, w170_73, w170_74, w170_75, w170_76, w170_77, w170_78, w170_79, ks_118, x2, x20, kt_121, kt_119, nI_add, Nat.zero_add, in_nI (show 61 + e < kl 119 by rw [kl_119]; omega) (by rw [kl_119]; omega), nI_clamp (show 61 + e < 2 ^ 31 by omega), z2, in_nI (show g < kl 121 by rw [kl_121]; omega) (by rw [kl_121]; omega), nI_clamp (show g < 2 ^ 31 by omega), ↓reduceIte, Option.toList_some, Option.toList_none, List.cons_append, List.nil_append]
    show Wq none 170 63 [some (.ref (118 : Nat)), some (.int (nI g)), some (.int (nI e)), some (.int (nI pr))] [] τ3 _
    simp only [w170_0, w170_1, w170_2, w170_3, w170_4, w170_5, w170_8, w170_11, w170_12, w170_13, w170_16, w170_18, w170_20, w170_21, w170_24, w170_26, w170_27, w170_28, w170_29, w170_32, w170_33, w170_34, w170_37, w170_39, w170_40, w170_41, w170_42, w170_43, w170_44, w170_45, w170_46, w170_47, w170_50, w170_51, w170_52, w170_53, w170_54, w170_57, w170_59, w170_60, w170_61, w170_62, w170_63, w170_64, w170_67, w170_69, w170_70, w170_71, w170_72, w170_73, w170_74, w170_75, w170_76, w170_77, w170_78, w170_79, ks_118, x3, kt_121, nI_add, in_nI (show 12 + g < kl 121 by rw [kl_121]; omega) (by rw [kl_121]; omega), nI_clamp (show 12 + g < 2 ^ 31 by omega), z3, nI_shl 1 (show e < 32 by omega), nI_or, ↓reduceIte, Option.toList_some, Option.toList_none, List.cons_append, List.nil_append, true_and]
    rfl
  · refine MA_now hMA (fun a b z => ?_) (fun i hi => ?_)
    · show dm_up (dm_up (dm_up (dm_up ρ 121 21 _) 121 18 _) 121 g _) 121 (12 + g) _ a b = _
      rw [up_get, if_neg (by omega), up_get, if_neg (by omega), up_get, if_neg (by omega), up_get, if_neg (by omega)]
    · show gi (dm_up (dm_up (dm_up (dm_up ρ 121 21 _) 121 18 _) 121 g _) 121 (12 + g) _) 121 i = _
      unfold hiN
      rw [gi_up]
      by_cases a1 : i = 12 + g
      · rw [if_pos ⟨rfl, a1⟩, if_neg (by omega), if_neg (by omega), if_neg (by omega), if_pos a1]
      · rw [if_neg (fun w => a1 w.2), gi_up]
        by_cases a2 : i = g
        · rw [if_pos ⟨rfl, a2⟩, if_neg (by omega), if_neg (by omega), if_pos a2]
        · rw [if_neg (fun w => a2 w.2), gi_up]
          by_cases a3 : i = 18
          · rw [if_pos ⟨rfl, a3⟩, if_neg (by omega), if_pos a3]
          · rw [if_neg (fun w => a3 w.2), gi_up]
            by_cases a4 : i = 21
            · rw [if_pos ⟨rfl, a4⟩, if_pos a4, Nat.min_comm]
            · rw [if_neg (fun w => a4 w.2), if_neg a4, if_neg a3, if_neg a2, if_neg a1]
              exact hn i hi
  · intro a b z
    show dm_up (dm_up (dm_up (dm_up ρ 121 21 _) 121 18 _) 121 g _) 121 (12 + g) _ a b = _
    rw [up_get, if_neg (by omega), up_get, if_neg (by omega), up_get, if_neg (by omega), up_get, if_neg (by omega)]
    exact hlo a b z
theorem pr_hire (x y : Int32) (hI : Inv σ) : Pr Inv 87 171 [.int x, .int y] σ := by
  obtain ⟨c, n, k, p, q, im, h, hs, ht, m, bg, bx, L, tx, f, s, hWA, hCA, hMA⟩ := id hI; obtain ⟨hw, hwn, ⟨hk16, hkp⟩, ⟨hq4, hqi⟩, ⟨hh9, hhs, hht⟩, ⟨hm15, hmb⟩, ⟨hL240, htx⟩, hs31⟩ := id hWA; obtain ⟨⟨P, D, hPD, hB, hC, hD⟩, hN, hPa, hIm, hHe, hBk, hTx, hF, hS, hSc⟩ := id hCA; obtain ⟨hM, hc, hn, hmP, hmI, hmH, hmB, hmT, hmF, hmS⟩ := id hMA
  obtain ⟨b0, b3, b4, b5, b6, b7, b8, b9, b10, b11, b12⟩ := id hB
  obtain ⟨w0, w2, w3, w4, w5, w6, w7, w8, w9⟩ := id hw
  obtain ⟨m0, m1, m2, m3, m5, m6, m8, m11, m12, m14, m22, m23, m24, m25, m29, m30, m31, m32⟩ := id hM
  obtain ⟨⟨kP, ⟨t1, l1⟩, ⟨t2, l2⟩, ⟨t3, l3⟩, ⟨t4, l4⟩, ⟨t5, l5⟩, ⟨t6, l6⟩, ⟨t7, l7⟩, ⟨t8, l8⟩, ⟨t9, l9⟩⟩, ⟨r1, r2, r3, r4, r5, r6, r7, r8, r9⟩, ⟨i0, i2, i3, i4⟩, f1, f2, f3, f4, f5, f6, f7⟩ := id hC
  obtain ⟨⟨kS, ⟨u1, v1⟩, ⟨u2, v2⟩, ⟨u3, v3⟩⟩, ⟨q0, q1, q2⟩, ⟨j3, j4, j5, j6⟩, jf⟩ := id hN
  rcases ix_cs x (show c 2 < 2 ^ 31 by omega) with ⟨g, hg, rfl⟩ | ⟨hx, hx2⟩
  · rcases ix_cs y (show c 3 < 2 ^ 31 by omega) with ⟨e, he, rfl⟩ | ⟨hy, hy2⟩
    · have hsF := fun Q => c_streetsFor (Q := Q) hB hC hN hw hwn hg he
      obtain ⟨τm, em, fm⟩ := c_mayA hWA hMA hg he
      cases hl : lwN c n g e with
      | none =>
        rw [hl] at hsF em
        refine pr_of (v := -1000000003) (σ1 := σ) (σ2 := τm) (fun Q => Cq_of (Er_of ?_)) (fun Q => Cq_of (Er_of ?_)) (inv_129 hI fm)
        · show Wq none 87 0 [some (.ref (0 : Nat)), some (.int (nI g)), some (.int (nI e)), none] [] σ _
          simp only [w87_0, w87_1, w87_4, w87_5, w87_8, w87_11, w87_12, w87_15, w87_16, w87_19, w87_22, w87_24, w87_25, w87_26, w87_27, w87_28, w87_31, w87_32, w87_33, w87_34, w87_37, w87_39, w87_40, w87_41, w87_44, w87_45, w87_48, w87_51, w87_52, w87_53, w87_54, w87_55, w87_58, ks_0, kP, b4, c_hasGuide hC hg hw, c_hasClient hC he hw, nI_ne1, hsF, oI, ↓reduceIte, Option.toList_some, Option.toList_none, List.cons_append, List.nil_append, and_self]
        · show Wq none 171 0 [some (.ref (118 : Nat)), some (.int (nI g)), some (.int (nI e))] [] σ _
          simp only [w171_0, w171_1, w171_2, w171_5, w171_8, w171_9, w171_10, w171_13, w171_16, w171_18, w171_19, w171_20, w171_21, w171_22, w171_25, w171_28, w171_30, w171_31, w171_32, w171_35, w171_36, w171_37, w171_38, w171_41, ks_118, c_isGuide (x := nI g) hM hc hw ⟨g, hg, rfl⟩, c_isClient (x := nI e) hM hc hw ⟨e, he, rfl⟩, nI_ne1, em, ↓reduceIte, Option.toList_some, Option.toList_none, List.cons_append, List.nil_append, and_self]
      | some d =>
        rw [hl] at hsF em
        have hd := lwN_lt hl
        have hm1 : ¬ nI d = -1 := fun q => nI_m1 (show d < 2 ^ 31 by omega) q.symm
        obtain ⟨τ1, e1, hCA1, k1⟩ := c_keepA hWA hCA
        obtain ⟨τ2, e2, hCA2, k2⟩ := c_leadA (d := d) (WA_push hWA) hCA1 hg he (by omega)
        have lo : ∀ a b, 118 ≤ a → τ2 a b = σ a b := fun a b z => (k2 a b z).trans (k1 a b z)
        have hMA2 := MA_lo hMA lo
        obtain ⟨τ3, e3, f3'⟩ := c_mayA hWA hMA2 hg he
        have hMA3 := MA_129 hMA2 f3'
        obtain ⟨τ4, e4, hMA4, k4⟩ := c_rememberA hWA hMA3
        obtain ⟨τ5, e5, hMA5, k5⟩ := c_hiresA (WA_push hWA) hMA4 hg he hl
        obtain ⟨hM2, hc2, hn2, -⟩ := id hMA2
        rw [hl] at e3
        refine pr_of (fun Q => Cq_of (Er_of (σ' := τ2) (r := some (.int (nI (csN c (n 20) g d)))) ?_)) (fun Q => Cq_of (Er_of (σ' := τ5) ?_)) (inv_mk (WA_now (WA_push hWA) (WN_hi hw hwn hg he)) hCA2 (fun a b z => (k5 a b z).trans ((k4 a b z).trans (by rw [f3' a (by omega)]))) hMA5)
        · show Wq none 87 0 [some (.ref (0 : Nat)), some (.int (nI g)), some (.int (nI e)), none] [] σ _
          simp only [w87_0, w87_1, w87_4, w87_5, w87_8, w87_11, w87_12, w87_15, w87_16, w87_19, w87_22, w87_24, w87_25, w87_26, w87_27, w87_28, w87_31, w87_32, w87_33, w87_34, w87_37, w87_39, w87_40, w87_41, w87_44, w87_45, w87_48, w87_51, w87_52, w87_53, w87_54, w87_55, w87_58, ks_0, ks_28, kP, b4, b6, b7, c_hasGuide hC hg hw, c_hasClient hC he hw, nI_ne1, hsF, oI, hm1, e1, e2, ↓reduceIte, Option.toList_some, Option.toList_none, List.cons_append, List.nil_append, and_self]
        · show Wq none 171 0 [some (.ref (118 : Nat)), some (.int (nI g)), some (.int (nI e))] [] τ2 _
          simp only [w171_0, w171_1, w171_2, w171_5, w171_8, w171_9, w171_10, w171_13, w171_16, w171_18, w171_19, w171_20, w171_21, w171_22, w171_25, w171_28, w171_30, w171_31, w171_32, w171_35, w171_36, w171_37, w171_38, w171_41, ks_118, c_isGuide (x := nI g) hM2 hc2 hw ⟨g, hg, rfl⟩, c_isClient (x := nI e) hM2 hc2 hw ⟨e, he, rfl⟩, nI_ne1, e3, reduceCtorEq, e4, e5, ↓reduceIte, Option.toList_some, Option.toList_none, List.cons_append, List.nil_append, and_self]
    · refine pr_of (v := -1000000001) (σ1 := σ) (σ2 := σ) (fun Q => Cq_of (Er_of ?_)) (fun Q => Cq_of (Er_of ?_)) hI
      · show Wq none 87 0 [some (.ref (0 : Nat)), some (.int (nI g)), some (.int y), none] [] σ _
        simp only [w87_0, w87_1, w87_4, w87_5, w87_8, w87_11, w87_12, w87_15, w87_16, w87_19, w87_22, w87_24, w87_25, w87_26, w87_27, w87_28, w87_31, w87_32, w87_33, w87_34, w87_37, w87_39, w87_40, w87_41, w87_44, w87_45, w87_48, w87_51, w87_52, w87_53, w87_54, w87_55, w87_58, ks_0, kP, b4, c_hasGuide hC hg hw, c_hasClient_f hC hy, nI_ne1, ↓reduceIte, Option.toList_some, Option.toList_none, List.cons_append, List.nil_append, and_self]
      · show Wq none 171 0 [some (.ref (118 : Nat)), some (.int (nI g)), some (.int y)] [] σ _
        simp only [w171_0, w171_1, w171_2, w171_5, w171_8, w171_9, w171_10, w171_13, w171_16, w171_18, w171_19, w171_20, w171_21, w171_22, w171_25, w171_28, w171_30, w171_31, w171_32, w171_35, w171_36, w171_37, w171_38, w171_41, ks_118, c_isGuide (x := nI g) hM hc hw ⟨g, hg, rfl⟩, c_isClient_f hM hc hw hy2, nI_ne1, ↓reduceIte, Option.toList_some, Option.toList_none, List.cons_append, List.nil_append, and_self]
  · refine pr_of (v := -1000000001) (σ1 := σ) (σ2 := σ) (fun Q => Cq_of (Er_of ?_)) (fun Q => Cq_of (Er_of ?_)) hI
    · show Wq none 87 0 [some (.ref (0 : Nat)), some (.int x), some (.int y), none] [] σ _
      simp only [w87_0, w87_1, w87_4, w87_5, w87_8, w87_11, w87_12, w87_15, w87_16, w87_19, w87_22, w87_24, w87_25, w87_26, w87_27, w87_28, w87_31, w87_32, w87_33, w87_34, w87_37, w87_39, w87_40, w87_41, w87_44, w87_45, w87_48, w87_51, w87_52, w87_53, w87_54, w87_55, w87_58, ks_0, kP, b4, c_hasGuide_f hC hx, ↓reduceIte, Option.toList_some, Option.toList_none, List.cons_append, List.nil_append, and_self]
    · show Wq none 171 0 [some (.ref (118 : Nat)), some (.int x), some (.int y)] [] σ _
      simp only [w171_0, w171_1, w171_2, w171_5, w171_8, w171_9, w171_10, w171_13, w171_16, w171_18, w171_19, w171_20, w171_21, w171_22, w171_25, w171_28, w171_30, w171_31, w171_32, w171_35, w171_36, w171_37, w171_38, w171_41, ks_118, c_isGuide_f hM hc hw hx2, ↓reduceIte, Option.toList_some, Option.toList_none, List.cons_append, List.nil_append, and_self]
end HR
