section LIX
variable {σ : dm_G} {c n : Nat → Nat} {k : Nat} {p : Nat → Nat → Nat} {q : Nat} {im : Nat → Nat → Nat} {h : Nat} {hs ht : Nat → Nat} {m : Nat} {bg bx : Nat → Nat} {L : Nat} {tx : Nat → Nat} {f : Int32} {s : Nat}
theorem q_listen (hK : KA c n k p q im h hs ht m bg bx L tx f s σ) : Er 113 [(.ref (0 : Nat))] σ (some (.int (oI (ltN c (hrN c hs ht h) 3).1))) σ := by
  obtain ⟨hWA, hCA⟩ := id hK; obtain ⟨hw, hwn, ⟨hk16, hkp⟩, ⟨hq4, hqi⟩, ⟨hh9, hhs, hht⟩, ⟨hm15, hmb⟩, ⟨hL240, htx⟩, hs31⟩ := id hWA; obtain ⟨⟨P, D, hPD, hB, hC, hD⟩, hN, hPa, hIm, hHe, hBk, hTx, hF, hS, hSc⟩ := id hCA
  obtain ⟨b0, b3, b4, b5, b6, b7, b8, b9, b10, b11, b12⟩ := id hB
  have kP := hC.1.1
  have hs8 := hrN_lt (hs := hs) (h := h) hw hht
  refine Er_of ?_
  show Wq none 113 0 [some (.ref (0 : Nat))] [] σ _
  simp only [w113_0, w113_1, w113_4, w113_5, w113_8, w113_11, ks_0, ks_105, b4, b9, c_bestTurn hC hw hs8 (fun Q => c_hereC hw hht hHe), ↓reduceIte, Option.toList_some, Option.toList_none, List.cons_append, List.nil_append, and_self]
end LIX
