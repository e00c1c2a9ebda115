section DSX
variable {σ : dm_G} {c n : Nat → Nat} {k : Nat} {p : Nat → Nat → Nat} {q : Nat} {im : Nat → Nat → Nat} {h : Nat} {hs ht : Nat → Nat} {m : Nat} {bg bx : Nat → Nat} {L : Nat} {tx : Nat → Nat} {f : Int32} {s : Nat}
theorem q_drift {j : Nat} (hK : KA c n k p q im h hs ht m bg bx L tx f s σ) (h0 : 0 < c 0) (h9 : n 20 ≤ 9000) (h1 : 1 ≤ j) (h2 : j ≤ 60) : ∃ τ, Er 92 [(.ref (0 : Nat)), .int (nI j)] σ (some (.int (nI ((diN c j n s).1 21)))) τ ∧ KA c (diN c j n s).1 (min (k + 1) 16) (pushP n p) q im h hs ht m bg bx L tx f (diN c j n s).2 τ ∧ FZ σ τ := by
  obtain ⟨hWA, hCA⟩ := id hK; obtain ⟨hw, hwn, ⟨hk16, hkp⟩, ⟨hq4, hqi⟩, ⟨hh9, hhs, hht⟩, ⟨hm15, hmb⟩, ⟨hL240, htx⟩, hs31⟩ := id hWA; obtain ⟨⟨P, D, hPD, hB, hC, hD⟩, hN, hPa, hIm, hHe, hBk, hTx, hF, hS, hSc⟩ := id hCA
  obtain ⟨b0, b3, b4, b5, b6, b7, b8, b9, b10, b11, b12⟩ := id hB
  obtain ⟨w0, w2, w3, w4, w5, w6, w7, w8, w9⟩ := id hw
  obtain ⟨hn1, hn18, hn19, hn20, hn21⟩ := id hwn
  have hr : rfN c n = nI 0 := rf_0 h0 h9
  obtain ⟨τ1, e1, hCA1, k1⟩ := c_keepA hWA hCA
  obtain ⟨τ2, e2, hCA2, k2⟩ := l_cDr (d := j) (v2 := some (.int (nI 0))) (by omega) h0 j 0 n s τ1 (by omega) (WA_push hWA) hCA1 (by omega)
  refine ⟨τ2, Er_of ?_, ⟨diN_W h0 j n s (WA_push hWA) (by omega), hCA2⟩, fun a b z => (k2 a b z).trans (k1 a b z)⟩
  show Wq none 92 0 [some (.ref (0 : Nat)), some (.int (nI j)), none, none] [] σ _
  simp only [w92_0, w92_1, w92_2, w92_5, w92_6, w92_7, w92_10, w92_11, w92_12, w92_13, w92_16, w92_17, w92_20, w92_23, w92_24, w92_26, w92_27, w92_30, w92_31, w92_34, w92_37, w92_40, w92_41, w92_44, w92_47, ks_0, ks_28, b6, b7, c_refusal hB hC hN hw (show n 20 < 2 ^ 31 by omega) h1 h2, hr, e1, e2, ↓reduceIte, Option.toList_some, Option.toList_none, List.cons_append, List.nil_append, and_self]
theorem q_drift_f (hK : KA c n k p q im h hs ht m bg bx L tx f s σ) : Er 92 [(.ref (0 : Nat)), .int (nI 0)] σ (some (.int (-1000000002))) σ := by
  have hx : ¬ ∃ j, 1 ≤ j ∧ j ≤ 60 ∧ nI 0 = nI j := by
    rintro ⟨j, h1, h2, h3⟩
    have := (nI_eq (a := 0) (b := j) (by omega) (by omega)).mp h3
    omega
  refine Er_of ?_
  show Wq none 92 0 [some (.ref (0 : Nat)), some (.int (nI 0)), none, none] [] σ _
  simp only [w92_0, w92_1, w92_2, w92_5, w92_6, w92_7, w92_10, w92_11, w92_12, w92_13, w92_16, w92_17, w92_20, w92_23, w92_24, w92_26, w92_27, w92_30, w92_31, w92_34, w92_37, w92_40, w92_41, w92_44, w92_47, ks_0, c_refusal_f hx, (by decide : ¬ (-1000000002 : Int32) = nI 0), ↓reduceIte, Option.toList_some, Option.toList_none, List.cons_append, List.nil_append, and_self]
end DSX
