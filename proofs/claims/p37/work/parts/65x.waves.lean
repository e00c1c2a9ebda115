section WVX
variable {σ : dm_G} {c n : Nat → Nat} {k : Nat} {p : Nat → Nat → Nat} {q : Nat} {im : Nat → Nat → Nat} {h : Nat} {hs ht : Nat → Nat} {m : Nat} {bg bx : Nat → Nat} {L : Nat} {tx : Nat → Nat} {f : Int32} {s : Nat}
theorem KA_kc {ρ : dm_G} (hk : ∀ a b, ¬ ((a = 110 ∧ b = 3) ∨ (110 < a ∧ a < 114)) → ρ a b = σ a b) (hK : KA c n k p q im h hs ht m bg bx L tx f s σ) : KA c n k p q im h hs ht m bg bx L tx f s ρ ∧ FZ σ ρ := ⟨KA_of (fun a b z => hk a b (by unfold scC at z; omega)) hK, fun a b z => hk a b (by omega)⟩
theorem Er_E {y : Nat} {as : List Value} {σ : dm_G} {r : Option Value} {P : dm_G → Prop} (h : Cq y as σ (fun r' τ => r' = r ∧ P τ)) : ∃ τ, Er y as σ r τ ∧ P τ := by
  obtain ⟨r2, τ, h1, rfl, h2⟩ := h
  exact ⟨τ, h1, h2⟩
theorem q_fromWherever {s' e g : Nat} (hK : KA c n k p q im h hs ht m bg bx L tx f s σ) (hs' : s' < 2 ^ c 0) (he : e < c 0) (hg : g < 2) : ∃ τ, Er 103 [(.ref (0 : Nat)), .int (nI s'), .int (nI e), .int (nI g)] σ (some (.int (wvF c (some e) g s'))) τ ∧ KA c n k p q im h hs ht m bg bx L tx f s τ ∧ FZ σ τ := by
  obtain ⟨hWA, hCA⟩ := id hK; obtain ⟨hw, hwn, ⟨hk16, hkp⟩, ⟨hq4, hqi⟩, ⟨hh9, hhs, hht⟩, ⟨hm15, hmb⟩, ⟨hL240, htx⟩, hs31⟩ := id hWA; obtain ⟨⟨P, D, hPD, hB, hC, hD⟩, hN, hPa, hIm, hHe, hBk, hTx, hF, hS, hSc⟩ := id hCA
  obtain ⟨b0, b3, b4, b5, b6, b7, b8, b9, b10, b11, b12⟩ := id hB
  obtain ⟨w0, w2, w3, w4, w5, w6, w7, w8, w9⟩ := id hw
  have kP := hC.1.1
  have a1 : ¬ nI g < nI 0 := nI_pos (by omega)
  have a2 : nI g ≤ nI 1 := nI_le (by omega) (by omega)
  have hx8 : ∀ k, some e = some k → k < 8 := fun k h => by cases h; omega
  have cf : ∀ Q : Option Value → dm_G → Prop, (∀ ρ, (∀ a b, ¬ ((a = 110 ∧ b = 3) ∨ (110 < a ∧ a < 114)) → ρ a b = σ a b) → Q (some (.int (wvF c (some e) g s'))) ρ) → Cq 72 [(.ref (110 : Nat)), .ref P, .int (nI s'), .int (nI e), .int (nI g)] σ Q := fun Q hq => Er_ex (c_find hg hx8 hPD hC hw hSc hs' hq)
  refine Er_E (Er_ex ?_)
  show Wq none 103 0 [some (.ref (0 : Nat)), some (.int (nI s')), some (.int (nI e)), some (.int (nI g))] [] σ _
  by_cases hg1 : g = 1
  · subst hg1
    simp only [w103_0, w103_1, w103_4, w103_5, w103_8, w103_11, w103_12, w103_15, w103_16, w103_19, w103_22, w103_24, w103_25, w103_26, w103_29, w103_30, w103_31, w103_34, w103_36, w103_37, w103_38, w103_41, w103_42, w103_45, w103_46, w103_47, w103_48, w103_49, w103_52, w103_53, w103_56, w103_57, ks_0, ks_110, kP, b4, b11, c_hasAll hC hw hs', c_hasCrossing hC he hw, nI_ne1, a1, a2, ↓reduceIte, Option.toList_some, Option.toList_none, List.cons_append, List.nil_append]
    refine cf _ (fun ρ hk => ?_)
    simp only [w103_0, w103_1, w103_4, w103_5, w103_8, w103_11, w103_12, w103_15, w103_16, w103_19, w103_22, w103_24, w103_25, w103_26, w103_29, w103_30, w103_31, w103_34, w103_36, w103_37, w103_38, w103_41, w103_42, w103_45, w103_46, w103_47, w103_48, w103_49, w103_52, w103_53, w103_56, w103_57, w103_60, ↓reduceIte, Option.toList_some, Option.toList_none, List.cons_append, List.nil_append]
    exact ⟨by trivial, KA_kc hk hK⟩
  · obtain rfl : g = 0 := by omega
    simp only [w103_0, w103_1, w103_4, w103_5, w103_8, w103_11, w103_12, w103_15, w103_16, w103_19, w103_22, w103_24, w103_25, w103_26, w103_29, w103_30, w103_31, w103_34, w103_36, w103_37, w103_38, w103_41, w103_42, w103_45, w103_46, w103_47, w103_48, w103_49, w103_52, w103_53, w103_56, w103_57, ks_0, ks_110, kP, b4, b11, c_hasAll hC hw hs', c_hasCrossing hC he hw, nI_ne1, a1, a2, (by decide : ¬ nI 0 = nI 1), ↓reduceIte, Option.toList_some, Option.toList_none, List.cons_append, List.nil_append]
    refine cf _ (fun ρ hk => ?_)
    simp only [w103_0, w103_1, w103_4, w103_5, w103_8, w103_11, w103_12, w103_15, w103_16, w103_19, w103_22, w103_24, w103_25, w103_26, w103_29, w103_30, w103_31, w103_34, w103_36, w103_37, w103_38, w103_41, w103_42, w103_45, w103_46, w103_47, w103_48, w103_49, w103_52, w103_53, w103_56, w103_57, w103_60, ↓reduceIte, Option.toList_some, Option.toList_none, List.cons_append, List.nil_append]
    exact ⟨by trivial, KA_kc hk hK⟩
theorem q_meet {s' g : Nat} (hK : KA c n k p q im h hs ht m bg bx L tx f s σ) (hs' : s' < 2 ^ c 0) (hg : g < 2) : ∃ τ, Er 104 [(.ref (0 : Nat)), .int (nI s'), .int (nI g)] σ (some (.int (wvF c none g s'))) τ ∧ KA c n k p q im h hs ht m bg bx L tx f s τ ∧ FZ σ τ := by
  obtain ⟨hWA, hCA⟩ := id hK; obtain ⟨hw, hwn, ⟨hk16, hkp⟩, ⟨hq4, hqi⟩, ⟨hh9, hhs, hht⟩, ⟨hm15, hmb⟩, ⟨hL240, htx⟩, hs31⟩ := id hWA; obtain ⟨⟨P, D, hPD, hB, hC, hD⟩, hN, hPa, hIm, hHe, hBk, hTx, hF, hS, hSc⟩ := id hCA
  obtain ⟨b0, b3, b4, b5, b6, b7, b8, b9, b10, b11, b12⟩ := id hB
  obtain ⟨w0, w2, w3, w4, w5, w6, w7, w8, w9⟩ := id hw
  have kP := hC.1.1
  have a1 : ¬ nI g < nI 0 := nI_pos (by omega)
  have a2 : nI g ≤ nI 1 := nI_le (by omega) (by omega)
  have hx8 : ∀ k : Nat, none = some k → k < 8 := fun k h => by cases h
  have cf : ∀ Q : Option Value → dm_G → Prop, (∀ ρ, (∀ a b, ¬ ((a = 110 ∧ b = 3) ∨ (110 < a ∧ a < 114)) → ρ a b = σ a b) → Q (some (.int (wvF c none g s'))) ρ) → Cq 72 [(.ref (110 : Nat)), .ref P, .int (nI s'), .int (-1), .int (nI g)] σ Q := fun Q hq => Er_ex (c_find (x := none) hg hx8 hPD hC hw hSc hs' hq)
  refine Er_E (Er_ex ?_)
  show Wq none 104 0 [some (.ref (0 : Nat)), some (.int (nI s')), some (.int (nI g))] [] σ _
  by_cases hg1 : g = 1
  · subst hg1
    simp only [w104_0, w104_1, w104_4, w104_5, w104_8, w104_11, w104_13, w104_14, w104_15, w104_18, w104_19, w104_20, w104_23, w104_25, w104_26, w104_27, w104_30, w104_31, w104_34, w104_35, w104_36, w104_37, w104_38, w104_41, w104_42, w104_45, w104_46, ks_0, ks_110, kP, b4, b11, c_hasAll hC hw hs', nI_ne1, a1, a2, ↓reduceIte, Option.toList_some, Option.toList_none, List.cons_append, List.nil_append]
    refine cf _ (fun ρ hk => ?_)
    simp only [w104_0, w104_1, w104_4, w104_5, w104_8, w104_11, w104_13, w104_14, w104_15, w104_18, w104_19, w104_20, w104_23, w104_25, w104_26, w104_27, w104_30, w104_31, w104_34, w104_35, w104_36, w104_37, w104_38, w104_41, w104_42, w104_45, w104_46, w104_49, ↓reduceIte, Option.toList_some, Option.toList_none, List.cons_append, List.nil_append]
    exact ⟨by trivial, KA_kc hk hK⟩
  · obtain rfl : g = 0 := by omega
    simp only [w104_0, w104_1, w104_4, w104_5, w104_8, w104_11, w104_13, w104_14, w104_15, w104_18, w104_19, w104_20, w104_23, w104_25, w104_26, w104_27, w104_30, w104_31, w104_34, w104_35, w104_36, w104_37, w104_38, w104_41, w104_42, w104_45, w104_46, ks_0, ks_110, kP, b4, b11, c_hasAll hC hw hs', nI_ne1, a1, a2, (by decide : ¬ nI 0 = nI 1), ↓reduceIte, Option.toList_some, Option.toList_none, List.cons_append, List.nil_append]
    refine cf _ (fun ρ hk => ?_)
    simp only [w104_0, w104_1, w104_4, w104_5, w104_8, w104_11, w104_13, w104_14, w104_15, w104_18, w104_19, w104_20, w104_23, w104_25, w104_26, w104_27, w104_30, w104_31, w104_34, w104_35, w104_36, w104_37, w104_38, w104_41, w104_42, w104_45, w104_46, w104_49, ↓reduceIte, Option.toList_some, Option.toList_none, List.cons_append, List.nil_append]
    exact ⟨by trivial, KA_kc hk hK⟩
end WVX
