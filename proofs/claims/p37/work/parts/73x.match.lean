section MCX
variable {σ : dm_G} {c n : Nat → Nat} {k : Nat} {p : Nat → Nat → Nat} {q : Nat} {im : Nat → Nat → Nat} {h : Nat} {hs ht : Nat → Nat} {m : Nat} {bg bx : Nat → Nat} {L : Nat} {tx : Nat → Nat} {f : Int32} {s : Nat}
theorem KA_km {ρ : dm_G} (hk : ∀ a b, ¬ ((a = 114 ∧ (b < 2 ∨ 4 < b)) ∨ (114 < a ∧ a < 118)) → ρ a b = σ a b) (hK : KA c n k p q im h hs ht m bg bx L tx f s σ) : KA c n k p q im h hs ht m bg bx L tx f s ρ ∧ FZ σ ρ := ⟨KA_of (fun a b z => hk a b (by unfold scC at z; omega)) hK, fun a b z => hk a b (by omega)⟩
theorem m_neg {c3 : Nat} (h3 : c3 ≤ 6) {y : Int32} (h : y.toInt < 0) : y < nI c3 := by
  rw [Int32.lt_iff_toInt_lt, nI_toInt (by omega)]
  omega
theorem q_match1 (hK : KA c n k p q im h hs ht m bg bx L tx f s σ) : ∃ τ, Er 101 [(.ref (0 : Nat)), .int (-1)] σ (some (.int (nI (mostN (lenM c n) (prM c n) (c 2) (c 3))))) τ ∧ KA c n k p q im h hs ht m bg bx L tx f s τ ∧ FZ σ τ := by
  obtain ⟨hWA, hCA⟩ := id hK; obtain ⟨hw, hwn, ⟨hk16, hkp⟩, ⟨hq4, hqi⟩, ⟨hh9, hhs, hht⟩, ⟨hm15, hmb⟩, ⟨hL240, htx⟩, hs31⟩ := id hWA; obtain ⟨⟨P, D, hPD, hB, hC, hD⟩, hN, hPa, hIm, hHe, hBk, hTx, hF, hS, hSc⟩ := id hCA
  obtain ⟨b0, b3, b4, b5, b6, b7, b8, b9, b10, b11, b12⟩ := id hB
  obtain ⟨w0, w2, w3, w4, w5, w6, w7, w8, w9⟩ := id hw
  refine Er_E (Er_ex ?_)
  refine l_mcl hPD hB hC hN hw hwn hSc (by decide) (m_neg w3 (by decide)) (fun ρ v2 v3 v4 hk hmS s5 s6 s7 s8 hV => ?_)
  have b12' : ρ 0 12 = (.ref (114 : Nat)) := (hk _ _ (by omega)).trans b12
  simp only [w101_0, w101_1, w101_3, w101_6, w101_7, w101_8, w101_11, w101_14, w101_17, w101_19, w101_20, w101_21, w101_24, w101_25, w101_28, w101_31, w101_32, w101_35, w101_38, w101_41, w101_42, w101_43, w101_44, w101_45, w101_48, w101_51, w101_54, w101_55, w101_56, w101_57, w101_58, w101_61, w101_64, w101_67, w101_68, w101_69, w101_70, w101_73, w101_75, w101_76, w101_79, w101_80, w101_81, w101_83, w101_85, w101_86, w101_89, w101_90, w101_93, w101_94, w101_95, w101_97, w101_100, w101_103, w101_106, w101_109, w101_112, w101_115, w101_116, w101_119, w101_122, w101_148, w101_149, w101_152, w101_155, w101_156, w101_157, w101_160, w101_163, w101_164, w101_165, w101_168, w101_171, w101_172, w101_173, w101_176, w101_177, w101_180, w101_123_m1, ks_0, ks_114, b12', s6, ↓reduceIte, Option.toList_some, Option.toList_none, List.cons_append, List.nil_append]
  exact ⟨by trivial, KA_km hk hK⟩
theorem q_match2 (hK : KA c n k p q im h hs ht m bg bx L tx f s σ) : ∃ τ, Er 101 [(.ref (0 : Nat)), .int (-2)] σ (some (.int (nI (longN (lenM c n) (prM c n) (c 2) (c 3))))) τ ∧ KA c n k p q im h hs ht m bg bx L tx f s τ ∧ FZ σ τ := by
  obtain ⟨hWA, hCA⟩ := id hK; obtain ⟨hw, hwn, ⟨hk16, hkp⟩, ⟨hq4, hqi⟩, ⟨hh9, hhs, hht⟩, ⟨hm15, hmb⟩, ⟨hL240, htx⟩, hs31⟩ := id hWA; obtain ⟨⟨P, D, hPD, hB, hC, hD⟩, hN, hPa, hIm, hHe, hBk, hTx, hF, hS, hSc⟩ := id hCA
  obtain ⟨b0, b3, b4, b5, b6, b7, b8, b9, b10, b11, b12⟩ := id hB
  obtain ⟨w0, w2, w3, w4, w5, w6, w7, w8, w9⟩ := id hw
  refine Er_E (Er_ex ?_)
  refine l_mcl hPD hB hC hN hw hwn hSc (by decide) (m_neg w3 (by decide)) (fun ρ v2 v3 v4 hk hmS s5 s6 s7 s8 hV => ?_)
  have b12' : ρ 0 12 = (.ref (114 : Nat)) := (hk _ _ (by omega)).trans b12
  simp only [w101_0, w101_1, w101_3, w101_6, w101_7, w101_8, w101_11, w101_14, w101_17, w101_19, w101_20, w101_21, w101_24, w101_25, w101_28, w101_31, w101_32, w101_35, w101_38, w101_41, w101_42, w101_43, w101_44, w101_45, w101_48, w101_51, w101_54, w101_55, w101_56, w101_57, w101_58, w101_61, w101_64, w101_67, w101_68, w101_69, w101_70, w101_73, w101_75, w101_76, w101_79, w101_80, w101_81, w101_83, w101_85, w101_86, w101_89, w101_90, w101_93, w101_94, w101_95, w101_97, w101_100, w101_103, w101_106, w101_109, w101_112, w101_115, w101_116, w101_119, w101_122, w101_148, w101_149, w101_152, w101_155, w101_156, w101_157, w101_160, w101_163, w101_164, w101_165, w101_168, w101_171, w101_172, w101_173, w101_176, w101_177, w101_180, w101_123_m2, ks_0, ks_114, b12', s7, ↓reduceIte, Option.toList_some, Option.toList_none, List.cons_append, List.nil_append]
  exact ⟨by trivial, KA_km hk hK⟩
theorem q_match3 (hK : KA c n k p q im h hs ht m bg bx L tx f s σ) : ∃ τ, Er 101 [(.ref (0 : Nat)), .int (-3)] σ (some (.int (nI (costN (lenM c n) (prM c n) (c 2) (c 3))))) τ ∧ KA c n k p q im h hs ht m bg bx L tx f s τ ∧ FZ σ τ := by
  obtain ⟨hWA, hCA⟩ := id hK; obtain ⟨hw, hwn, ⟨hk16, hkp⟩, ⟨hq4, hqi⟩, ⟨hh9, hhs, hht⟩, ⟨hm15, hmb⟩, ⟨hL240, htx⟩, hs31⟩ := id hWA; obtain ⟨⟨P, D, hPD, hB, hC, hD⟩, hN, hPa, hIm, hHe, hBk, hTx, hF, hS, hSc⟩ := id hCA
  obtain ⟨b0, b3, b4, b5, b6, b7, b8, b9, b10, b11, b12⟩ := id hB
  obtain ⟨w0, w2, w3, w4, w5, w6, w7, w8, w9⟩ := id hw
  refine Er_E (Er_ex ?_)
  refine l_mcl hPD hB hC hN hw hwn hSc (by decide) (m_neg w3 (by decide)) (fun ρ v2 v3 v4 hk hmS s5 s6 s7 s8 hV => ?_)
  have b12' : ρ 0 12 = (.ref (114 : Nat)) := (hk _ _ (by omega)).trans b12
  simp only [w101_0, w101_1, w101_3, w101_6, w101_7, w101_8, w101_11, w101_14, w101_17, w101_19, w101_20, w101_21, w101_24, w101_25, w101_28, w101_31, w101_32, w101_35, w101_38, w101_41, w101_42, w101_43, w101_44, w101_45, w101_48, w101_51, w101_54, w101_55, w101_56, w101_57, w101_58, w101_61, w101_64, w101_67, w101_68, w101_69, w101_70, w101_73, w101_75, w101_76, w101_79, w101_80, w101_81, w101_83, w101_85, w101_86, w101_89, w101_90, w101_93, w101_94, w101_95, w101_97, w101_100, w101_103, w101_106, w101_109, w101_112, w101_115, w101_116, w101_119, w101_122, w101_148, w101_149, w101_152, w101_155, w101_156, w101_157, w101_160, w101_163, w101_164, w101_165, w101_168, w101_171, w101_172, w101_173, w101_176, w101_177, w101_180, w101_123_m3, ks_0, ks_114, b12', s8, ↓reduceIte, Option.toList_some, Option.toList_none, List.cons_append, List.nil_append]
  exact ⟨by trivial, KA_km hk hK⟩
/-- by whom the client j is led in the match -/
def mtN (c n : Nat → Nat) (j : Nat) : Option Nat := chO (lenM c n) (prM c n) (c 2) (longN (lenM c n) (prM c n) (c 2) (c 3)) (c 3 - j) j (gtk (lenM c n) (prM c n) (c 2) (longN (lenM c n) (prM c n) (c 2) (c 3)) (c 3) j)
theorem q_match {j : Nat} (hK : KA c n k p q im h hs ht m bg bx L tx f s σ) (hj : j < c 3) : ∃ τ, Er 101 [(.ref (0 : Nat)), .int (nI j)] σ (some (.int (oI (mtN c n j)))) τ ∧ KA c n k p q im h hs ht m bg bx L tx f s τ ∧ FZ σ τ := by
  obtain ⟨hWA, hCA⟩ := id hK; obtain ⟨hw, hwn, ⟨hk16, hkp⟩, ⟨hq4, hqi⟩, ⟨hh9, hhs, hht⟩, ⟨hm15, hmb⟩, ⟨hL240, htx⟩, hs31⟩ := id hWA; obtain ⟨⟨P, D, hPD, hB, hC, hD⟩, hN, hPa, hIm, hHe, hBk, hTx, hF, hS, hSc⟩ := id hCA
  obtain ⟨b0, b3, b4, b5, b6, b7, b8, b9, b10, b11, b12⟩ := id hB
  obtain ⟨w0, w2, w3, w4, w5, w6, w7, w8, w9⟩ := id hw
  have l8 := longN_8 (n := n) hw
  have h1 : ¬ nI j < (-3 : Int32) := fun q => by
    rw [Int32.lt_iff_toInt_lt, nI_toInt (by omega), show (-3 : Int32).toInt = -3 from rfl] at q
    omega
  have h2 : nI j < nI (c 3) := (nI_ltI (by omega) (by omega)).mpr hj
  have hd : (nI j).toInt < -3 ∨ -1 < (nI j).toInt := by
    rw [nI_toInt (by omega)]
    omega
  refine Er_E (Er_ex ?_)
  refine l_mcl hPD hB hC hN hw hwn hSc h1 h2 (fun ρ v2 v3 v4 hk hmS s5 s6 s7 s8 hV => ?_)
  have b12' : ρ 0 12 = (.ref (114 : Nat)) := (hk _ _ (by omega)).trans b12
  have cg := fun Q => c_guideOf (Q := Q) (x := j) hmS s5 l8 w3 w2 (lenM_8 (n := n) hw) (prM_p (n := n) hw) hV hj
  rw [w101_122, w101_123_d hd]
  simp only [w101_0, w101_1, w101_3, w101_6, w101_7, w101_8, w101_11, w101_14, w101_17, w101_19, w101_20, w101_21, w101_24, w101_25, w101_28, w101_31, w101_32, w101_35, w101_38, w101_41, w101_42, w101_43, w101_44, w101_45, w101_48, w101_51, w101_54, w101_55, w101_56, w101_57, w101_58, w101_61, w101_64, w101_67, w101_68, w101_69, w101_70, w101_73, w101_75, w101_76, w101_79, w101_80, w101_81, w101_83, w101_85, w101_86, w101_89, w101_90, w101_93, w101_94, w101_95, w101_97, w101_100, w101_103, w101_106, w101_109, w101_112, w101_115, w101_116, w101_119, w101_122, w101_148, w101_149, w101_152, w101_155, w101_156, w101_157, w101_160, w101_163, w101_164, w101_165, w101_168, w101_171, w101_172, w101_173, w101_176, w101_177, w101_180, ks_0, ks_114, b12', cg, ↓reduceIte, Option.toList_some, Option.toList_none, List.cons_append, List.nil_append]
  exact ⟨by trivial, KA_km hk hK⟩
end MCX
