/-! hired: both sides -/
/-- how all is behind a hire at the price -/
def hiN (c n : Nat → Nat) (g e pr : Nat) : Nat → Nat := fun i => if i = 21 then min (n 21 + pr) 999999 else if i = 18 then n 18 ||| 1 <<< e else if i = g then c (61 + e) else if i = 12 + g then n (12 + g) ||| 1 <<< e else n i
section HR
variable {σ σ' : dm_G} {Q : Option Value → dm_G → Prop} {c n : Nat → Nat} {k : Nat} {p : Nat → Nat → Nat} {q : Nat} {im : Nat → Nat → Nat} {h : Nat} {hs ht : Nat → Nat} {m : Nat} {bg bx : Nat → Nat} {L : Nat} {tx : Nat → Nat} {f : Int32} {s : Nat}
theorem WN_hi {g e pr : Nat} (hw : WC c) (hwn : WN c n) (hg : g < c 2) (he : e < c 3) : WN c (hiN c n g e pr) := by
  obtain ⟨w0, w2, w3, w4, w5, w6, w7, w8, w9⟩ := id hw
  obtain ⟨hn1, hn18, hn19, hn20, hn21⟩ := id hwn
  refine ⟨fun x hx => ?_, ?_, ?_, ?_, ?_⟩
  · obtain ⟨a1, a2, a3⟩ := hn1 x hx
    refine ⟨?_, ?_, ?_⟩
    · unfold hiN
      rw [if_neg (by omega), if_neg (by omega)]
      split
      · exact (w8 e he).2
      · rw [if_neg (by omega)]; exact a1
    · unfold hiN
      rw [if_neg (by omega), if_neg (by omega), if_neg (by omega), if_neg (by omega)]
      exact a2
    · unfold hiN
      rw [if_neg (by omega), if_neg (by omega), if_neg (by omega)]
      split
      · exact or_lt (hn1 g hg).2.2 (one_shl he)
      · exact a3
  · unfold hiN
    rw [if_neg (by omega), if_pos rfl]
    exact or_lt hn18 (one_shl he)
  · unfold hiN
    rw [if_neg (by omega), if_neg (by omega), if_neg (by omega), if_neg (by omega)]
    exact hn19
  · unfold hiN
    rw [if_neg (by omega), if_neg (by omega), if_neg (by omega), if_neg (by omega)]
    exact hn20
  · unfold hiN
    rw [if_pos rfl]
    exact Nat.min_le_right _ _
theorem c_leadA {g e d : Nat} (hWA : WA c n k p q im h hs ht m bg bx L tx s) (hCA : CA c n k p q im h hs ht m bg bx L tx f s σ) (hg : g < c 2) (he : e < c 3) (hd : d ≤ 8) : ∃ τ, (∀ Q : Option Value → dm_G → Prop, Cq 97 [(.ref (0 : Nat)), .int (nI g), .int (nI e), .int (nI d)] σ Q = Q (some (.int (nI (csN c (n 20) g d)))) τ) ∧ CA c (hiN c n g e (csN c (n 20) g d)) k p q im h hs ht m bg bx L tx f s τ ∧ ∀ a b, 118 ≤ a → τ a b = σ a b := by
  obtain ⟨hw, hwn, ⟨hk16, hkp⟩, ⟨hq4, hqi⟩, ⟨hh9, hhs, hht⟩, ⟨hm15, hmb⟩, ⟨hL240, htx⟩, hs31⟩ := id hWA
  obtain ⟨⟨P, D, hPD, hB, hC, hD⟩, hN, hPa, hIm, hHe, hBk, hTx, hF, hS, hSc⟩ := id hCA
  obtain ⟨b0, b3, b4, b5, b6, b7, b8, b9, b10, b11, b12⟩ := id hB
  obtain ⟨w0, w2, w3, w4, w5, w6, w7, w8, w9⟩ := id hw
  obtain ⟨⟨kP, ⟨t1, l1⟩, ⟨t2, l2⟩, ⟨t3, l3⟩, ⟨t4, l4⟩, ⟨t5, l5⟩, ⟨t6, l6⟩, ⟨t7, l7⟩, ⟨t8, l8⟩, ⟨t9, l9⟩⟩, ⟨r1, r2, r3, r4, r5, r6, r7, r8, r9⟩, ⟨i0, i2, i3, i4⟩, f1, f2, f3, f4, f5, f6, f7⟩ := id hC
  obtain ⟨⟨kS, ⟨u1, v1⟩, ⟨u2, v2⟩, ⟨u3, v3⟩⟩, ⟨q0, q1, q2⟩, ⟨j3, j4, j5, j6⟩, jf⟩ := id hN
  obtain ⟨hn1, hn18, hn19, hn20, hn21⟩ := id hwn
  have hpr := csN_lt (k := n 20) hw hg hd
  generalize hp : csN c (n 20) g d = pr at hpr ⊢
  have hpq := fun Q => c_priceOf (Q := Q) hB hC hN hw hwn hg hd
  rw [hp] at hpq
  have p6 : 2 ^ c 3 ≤ 2 ^ 6 := Nat.pow_le_pow_right (by decide) w3
  have h0 : ∀ (τ : dm_G) b, (∀ a, a < 24 → τ a = σ a) → τ 0 b = σ 0 b := fun τ b z => by rw [z 0 (by omega)]
  let τ1 := dm_up σ 24 6 (.int (nI (min (n 21 + pr) 999999)))
  let τ2 := dm_up τ1 24 4 (.int (nI (n 18 ||| 1 <<< e)))
  let τ3 := dm_up τ2 25 g (.int (nI (c (61 + e))))
  let τ4 := dm_up τ3 27 g (.int (nI (n (12 + g) ||| 1 <<< e)))
  have x1 : τ1 0 5 = (.ref (24 : Nat)) := b6
  have x2 : τ2 0 5 = (.ref (24 : Nat)) := b6
  have x2p : τ2 0 4 = .ref P := b4
  have x3 : τ3 0 5 = (.ref (24 : Nat)) := b6
  have y1 : τ1 24 4 = .int (nI (n 18)) := j4
  have y2 : τ2 24 0 = .ref (24 + 1) := q0
  have y3 : τ3 24 2 = .ref (24 + 3) := q2
  have z2 : τ2 P 12 = .ref (P + 8) := by
    show dm_up (dm_up σ 24 6 _) 24 4 _ P 12 = _
    rw [up_get, if_neg (by omega), up_get, if_neg (by omega)]
    exact r8
  have z3 : gi τ2 (P + 8) e = nI (c (61 + e)) := by
    rw [gi_of (σ := σ) (show dm_up (dm_up σ 24 6 _) 24 4 _ (P + 8) e = _ from by rw [up_get, if_neg (by omega), up_get, if_neg (by omega)])]
    exact (f5 e he).2
  have z4 : gi τ3 (24 + 3) g = nI (n (12 + g)) := by
    rw [gi_of (σ := σ) (show dm_up (dm_up (dm_up σ 24 6 _) 24 4 _) 25 g _ (24 + 3) g = _ from by rw [up_get, if_neg (by omega), up_get, if_neg (by omega), up_get, if_neg (by omega)])]
    exact (jf g hg).2.2
  refine ⟨τ4, fun Q => Cq_of (Er_of ?_), ?_, ?_⟩
  · show Wq none 97 0 [some (.ref (0 : Nat)), some (.int (nI g)), some (.int (nI e)), some (.int (nI d)), none] [] σ _
    simp only [w97_0, w97_1, w97_2, w97_3, w97_6, w97_8, w97_9, w97_12, w97_13, w97_16, w97_19, w97_21, w97_22, w97_24, w97_27, w97_31, w97_34, w97_34i, w97_35, w97_38, w97_39, w97_40, w97_41, w97_42, w97_45, w97_46, w97_49, w97_52, w97_53, w97_54, w97_57, w97_60, w97_61, w97_64, w97_67, w97_68, w97_71, w97_74, w97_75, w97_76, w97_79, w97_82, w97_83, w97_86, w97_87, w97_88, w97_89, w97_90, w97_93, w97_95, ks_0, ks_24, hpq, b6, j6, nI_add, nI_mn (show n 21 + pr < 2 ^ 31 by omega) (show 999999 < 2 ^ 31 by omega), ↓reduceIte, Option.toList_some, Option.toList_none, List.cons_append, List.nil_append]
    show Wq none 97 30 [some (.ref (0 : Nat)), some (.int (nI g)), some (.int (nI e)), some (.int (nI d)), some (.int (nI pr))] [] τ1 _
    simp only [w97_0, w97_1, w97_2, w97_3, w97_6, w97_8, w97_9, w97_12, w97_13, w97_16, w97_19, w97_21, w97_22, w97_24, w97_27, w97_30, w97_31, w97_34, w97_34i, w97_35, w97_38, w97_39, w97_40, w97_41, w97_42, w97_46, w97_49, w97_52, w97_53, w97_54, w97_57, w97_60, w97_61, w97_64, w97_67, w97_68, w97_71, w97_74, w97_75, w97_76, w97_79, w97_82, w97_83, w97_86, w97_87, w97_88, w97_89, w97_90, w97_93, w97_95, ks_0, ks_24, x1, y1, nI_shl 1 (show e < 32 by omega), nI_or, ↓reduceIte, Option.toList_some, Option.toList_none, List.cons_append, List.nil_append]
    show Wq none 97 45 [some (.ref (0 : Nat)), some (.int (nI g)), some (.int (nI e)), some (.int (nI d)), some (.int (nI pr))] [] τ2 _
    simp only [w97_0, w97_1, w97_2, w97_3, w97_6, w97_8, w97_9, w97_12, w97_13, w97_16, w97_19, w97_21, w97_22, w97_24, w97_27, w97_30, w97_31, w97_34, w97_34i, w97_35, w97_38, w97_39, w97_40, w97_41, w97_42, w97_45, w97_46, w97_49, w97_52, w97_53, w97_54, w97_57, w97_60, w97_61, w97_64, w97_68, w97_71, w97_74, w97_75, w97_76, w97_79, w97_82, w97_83, w97_86, w97_87, w97_88, w97_89, w97_90, w97_93, w97_95, ks_0, ks_24, kP, x2, x2p, y2, z2, c_at t8 (show e < kl (P + 8) by rw [l8]; omega) (by rw [l8]; omega), z3, c_put u1 (show g < kl (24 + 1) by rw [v1]; omega) (by rw [v1]; omega), ↓reduceIte, Option.toList_some, Option.toList_none, List.cons_append, List.nil_append]
    show Wq none 97 67 [some (.ref (0 : Nat)), some (.int (nI g)), some (.int (nI e)), some (.int (nI d)), some (.int (nI pr))] [] τ3 _
    simp only [w97_0, w97_1, w97_2, w97_3, w97_6, w97_8, w97_9, w97_12, w97_13, w97_16, w97_19, w97_21, w97_22, w97_24, w97_27, w97_30, w97_31, w97_34, w97_34i, w97_35, w97_38, w97_39, w97_40, w97_41, w97_42, w97_45, w97_46, w97_49, w97_52, w97_53, w97_54, w97_57, w97_60, w97_61, w97_64, w97_67, w97_68, w97_71, w97_74, w97_75, w97_76, w97_79, w97_82, w97_83, w97_86, w97_87, w97_88, w97_89, w97_90, w97_93, w97_95, ks_0, ks_24, x3, y3, c_at u3 (show g < kl (24 + 3) by rw [v3]; omega) (by rw [v3]; omega), z4, nI_shl 1 (show e < 32 by omega), nI_or, c_put u3 (show g < kl (24 + 3) by rw [v3]; omega) (by rw [v3]; omega), ↓reduceIte, Option.toList_some, Option.toList_none, List.cons_append, List.nil_append, true_and]
    rfl
  · refine CA_now hCA (fun a b z => ?_) ?_
    · show dm_up (dm_up (dm_up (dm_up σ 24 6 _) 24 4 _) 25 g _) 27 g _ a b = _
      rw [up_get, if_neg (by omega), up_get, if_neg (by omega), up_get, if_neg (by omega), up_get, if_neg (by omega)]
    · have nn : ∀ i, ¬ (i = 21 ∨ i = 18 ∨ i = g ∨ i = 12 + g) → hiN c n g e pr i = n i := fun i z => by
        unfold hiN
        rw [if_neg (by omega), if_neg (by omega), if_neg (by omega), if_neg (by omega)]
      refine ⟨SK_24, ⟨q0, q1, q2⟩, ⟨?_, ?_, ?_, ?_⟩, fun x hx => ⟨?_, ?_, ?_⟩⟩
      · rw [nn 19 (by omega)]; exact j3
      · show (.int (nI (n 18 ||| 1 <<< e)) : Value) = _
        unfold hiN
        rw [if_neg (by omega), if_pos rfl]
      · rw [nn 20 (by omega)]; exact j5
      · show (.int (nI (min (n 21 + pr) 999999)) : Value) = _
        unfold hiN
        rw [if_pos rfl]
      · show gi (dm_up (dm_up (dm_up (dm_up σ 24 6 _) 24 4 _) 25 g _) 27 g _) 25 x = _
        rw [gi_up, if_neg (by omega), gi_up]
        by_cases z : x = g
        · rw [if_pos ⟨rfl, z⟩]
          unfold hiN
          rw [if_neg (by omega), if_neg (by omega), if_pos z]
        · rw [if_neg (fun w => z w.2), gi_up, if_neg (by omega), gi_up, if_neg (by omega), nn x (by omega)]
          exact (jf x hx).1
      · show gi (dm_up (dm_up (dm_up (dm_up σ 24 6 _) 24 4 _) 25 g _) 27 g _) 26 x = _
        rw [gi_up, if_neg (by omega), gi_up, if_neg (by omega), gi_up, if_neg (by omega), gi_up, if_neg (by omega), nn (6 + x) (by omega)]
        exact (jf x hx).2.1
      · show gi (dm_up (dm_up (dm_up (dm_up σ 24 6 _) 24 4 _) 25 g _) 27 g _) 27 x = _
        rw [gi_up]
        by_cases z : x = g
        · rw [if_pos ⟨rfl, z⟩]
          unfold hiN
          rw [if_neg (by omega), if_neg (by omega), if_neg (by omega), if_pos (by omega)]
        · rw [if_neg (fun w => z w.2), gi_up, if_neg (by omega), gi_up, if_neg (by omega), gi_up, if_neg (by omega), nn (12 + x) (by omega)]
          exact (jf x hx).2.2
  · intro a b z
    show dm_up (dm_up (dm_up (dm_up σ 24 6 _) 24 4 _) 25 g _) 27 g _ a b = _
    rw [up_get, if_neg (by omega), up_get, if_neg (by omega), up_get, if_neg (by omega), up_get, if_neg (by omega)]
end HR
