section MCX
variable {σ : dm_G} {c n : Nat → Nat} {k : Nat} {p : Nat → Nat → Nat} {q : Nat} {im : Nat → Nat → Nat} {h : Nat} {hs ht : Nat → Nat} {m : Nat} {bg bx : Nat → Nat} {L : Nat} {tx : Nat → Nat} {f : Int32} {s : Nat}
theorem KA_km {ρ : dm_G} (hk : ∀ a b, ¬ ((a = 114 ∧ (b < 2 ∨ 4 < b)) ∨ (114 < a ∧ a < 118)) → ρ a b = σ a b) (hK : KA c n k p q im h hs ht m bg bx L tx f s σ) : KA c n k p q im h hs ht m bg bx L tx f s ρ ∧ FZ σ ρ := ⟨KA_of (fun a b z => hk a b (by unfold scC at z; omega)) hK, fun a b z => hk a b (by omega)⟩
theorem m_neg {c3 : Nat} (h3 : c3 ≤ 6) {y : Int32} (h : y.toInt < 0) : y < nI c3 := by
  rw [Int32.lt_iff_toInt_lt, nI_toInt (by omega)]
  omega
theorem q_match1 (hK : KA c n k p q im h hs ht m bg bx L tx f s σ) : ∃ τ, Er 102 [(.ref (0 : Nat)), .int (-1)] σ (some (.int (nI (mostN (lenM c n) (prM c n) (c 2) (c 3))))) τ ∧ KA c n k p q im h hs ht m bg bx L tx f s τ ∧ FZ σ τ := by
  obtain ⟨hWA, hCA⟩ := id hK; obtain ⟨hw, hwn, ⟨hk16, hkp⟩, ⟨hq4, hqi⟩, ⟨hh9, hhs, hht⟩, ⟨hm15, hmb⟩, ⟨hL240, htx⟩, hs31⟩ := id hWA; obtain ⟨⟨P, D, hPD, hB, hC, hD⟩, hN, hPa, hIm, hHe, hBk, hTx, hF, hS, hSc⟩ := id hCA
  obtain ⟨b0, b3, b4, b5, b6, b7, b8, b9, b10, b11, b12⟩ := id hB
  obtain ⟨w0, w2, w3, w4, w5, w6, w7, w8, w9⟩ := id hw
  refine Er_E (Er_ex ?_)
  refine l_mcl hPD hB hC hN hw hwn hSc (by decide) (m_neg w3 (by decide)) (fun ρ v2 v3 v4 hk hmS s5 s6 s7 s8 hV => ?_)
  have b12' : ρ 0 11 = (.ref (114 : Nat)) := (hk _ _ (by omega)).trans b12
  simp only [w102_0, w102_1, w102_3, w102_6, w102_7, w102_8, w102_11, w102_14, w102_17, w102_19, w102_20, w102_21, w102_24, w102_25, w102_28, w102_31, w102_32, w102_35, w102_38, w102_41, w102_42, w102_43, w102_44, w102_45, w102_48, w102_51, w102_54, w102_55, w102_56, w102_57, w102_58, w102_61, w102_64, w102_67, w102_68, w102_69, w102_70, w102_73, w102_75, w102_76, w102_79, w102_80, w102_81, w102_83, w102_85, w102_86, w102_89, w102_90, w102_93, w102_94, w102_95, w102_97, w102_100, w102_103, w102_106, w102_109, w102_112, w102_115, w102_116, w102_119, w102_122, w102_148, w102_149, w102_152, w102_155, w102_156, w102_157, w102_160, w102_163, w102_164, w102_165, w102_168, w102_171, w102_172, w102_173, w102_176, w102_177, w102_180, w102_123_m1, ks_0, ks_114, b12', s6, ↓reduceIte, Option.toList_some, Option.toList_none, List.cons_append, List.nil_append]
  exact ⟨by trivial, KA_km hk hK⟩
theorem q_match2 (hK : KA c n k p q im h hs ht m bg bx L tx f s σ) : ∃ τ, Er 102 [(.ref (0 : Nat)), .int (-2)] σ (some (.int (nI (longN (lenM c n) (prM c n) (c 2) (c 3))))) τ ∧ KA c n k p q im h hs ht m bg bx L tx f s τ ∧ FZ σ τ := by
  obtain ⟨hWA, hCA⟩ := id hK; obtain ⟨hw, hwn, ⟨hk16, hkp⟩, ⟨hq4, hqi⟩, ⟨hh9, hhs, hht⟩, ⟨hm15, hmb⟩, ⟨hL240, htx⟩, hs31⟩ := id hWA; obtain ⟨⟨P, D, hPD, hB, hC, hD⟩, hN, hPa, hIm, hHe, hBk, hTx, hF, hS, hSc⟩ := id hCA
  obtain ⟨b0, b3, b4, b5, b6, b7, b8, b9, b10, b11, b12⟩ := id hB
  obtain ⟨w0, w2, w3, w4, w5, w6, w7, w8, w9⟩ := id hw
  refine Er_E (Er_ex ?_)
  refine l_mcl hPD hB hC hN hw hwn hSc (by decide) (m_neg w3 (by decide)) (fun ρ v2 v3 v4 hk hmS s5 s6 s7 s8 hV => ?_)
  have b12' : ρ 0 11 = (.ref (114 : Nat)) := (hk _ _ (by omega)).trans b12
  simp only [w102_0, w102_1, w102_3, w102_6, w102_7, w102_8, w102_11, w102_14, w102_17, w102_19, w102_20, w102_21, w102_24, w102_25, w102_28, w102_31, w102_32, w102_35, w102_38, w102_41, w102_42, w102_43, w102_44, w102_45, w102_48, w102_51, w102_54, w102_55, w102_56, w102_57, w102_58, w102_61, w102_64, w102_67, w102_68, w102_69, w102_70, w102_73, w102_75, w102_76, w102_79, w102_80, w102_81, w102_83, w102_85, w102_86, w102_89, w102_90, w102_93, w102_94, w102_95, w102_97, w102_100, w102_103, w102_106, w102_109, w102_112, w102_115, w102_116, w102_119, w102_122, w102_148, w102_149, w102_152, w102_155, w102_156, w102_157, w102_160, w102_163, w102_164, w102_165, w102_168, w102_171, w102_172, w102_173, w102_176, w102_177, w102_180, w102_123_m2, ks_0, ks_114, b12', s7, ↓reduceIte, Option.toList_some, Option.toList_none, List.cons_append, List.nil_append]
  exact ⟨by trivial, KA_km hk hK⟩
theorem q_match3 (hK : KA c n k p q im h hs ht m bg bx L tx f s σ) : ∃ τ, Er 102 [(.ref (0 : Nat)), .int (-3)] σ (some (.int (nI (costN (lenM c n) (prM c n) (c 2) (c 3))))) τ ∧ KA c n k p q im h hs ht m bg bx L tx f s τ ∧ FZ σ τ := by
  obtain ⟨hWA, hCA⟩ := id hK; obtain ⟨hw, hwn, ⟨hk16, hkp⟩, ⟨hq4, hqi⟩, ⟨hh9, hhs, hht⟩, ⟨hm15, hmb⟩, ⟨hL240, htx⟩, hs31⟩ := id hWA; obtain ⟨⟨P, D, hPD, hB, hC, hD⟩, hN, hPa, hIm, hHe, hBk, hTx, hF, hS, hSc⟩ := id hCA
  obtain ⟨b0, b3, b4, b5, b6, b7, b8, b9, b10, b11, b12⟩ := id hB
  obtain ⟨w0, w2, w3, w4, w5, w6, w7, w8, w9⟩ := id hw
  refine Er_E (Er_ex ?_)
  refine l_mcl hPD hB hC hN hw hwn hSc (by decide) (m_neg w3 (by decide)) (fun ρ v2 v3 v4 hk hmS s5 s6 s7 s8 hV => ?_)
  have b12' : ρ 0 11 = (.ref (114 : Nat)) := (hk _ _ (by omega)).trans b12
  simp only [w102_0, w102_1, w102_3, w102_6, w102_7, w102_8, w102_11, w102_14, w102_17, w102_19, w102_20, w102_21, w102_24, w102_25, w102_28, w102_31, w102_32, w102_35, w102_38, w102_41, w102_42, w102_43, w102_44, w102_45, w102_48, w102_51, w102_54, w102_55, w102_56, w102_57, w102_58, w102_61, w102_64, w102_67, w102_68, w102_69, w102_70, w102_73, w102_75, w102_76, w102_79, w102_80, w102_81, w102_83, w102_85, w102_86, w102_89, w102_90, w102_93, w102_94, w102_95, w102_97, w102_100, w102_103, w102_106, w102_109, w102_112, w102_115, w102_116, w102_119, w102_122, w102_148, w102_149, w102_152, w102_155, w102_156, w102_157, w102_160, w102_163, w102_164, w102_165, w102_168, w102_171, w102_172, w102_173, w102_176, w102_177, w102_180, w102_123_m3, ks_0, ks_114, b12', s8, ↓reduceIte, Option.toList_some, Option.toList_none, List.cons_append, List.nil_append]
  exact ⟨by trivial, KA_km hk hK⟩
/-- by whom the client j is led in the match -/
def mtN (c n : Nat → Nat) (j : Nat) : Option Nat := chO (lenM c n) (prM c n) (c 2) (longN (lenM c n) (prM c n) (c 2) (c 3)) (c 3 - j) j (gtk (lenM c n) (prM c n) (c 2) (longN (lenM c n) (prM c n) (c 2) (c 3)) (c 3) j)
theorem q_match {j : Nat} (hK : KA c n k p q im h hs ht m bg bx L tx f s σ) (hj : j < c 3) : ∃ τ, Er 102 [(.ref (0 : Nat)), .int (nI j)] σ (some (.int (oI (mtN c n j)))) τ ∧ KA c n k p q im h hs ht m bg bx L tx f s τ ∧ FZ σ τ := by
  obtain ⟨hWA, hCA⟩ := id hK; obtain ⟨hw, hwn, ⟨hk16, hkp⟩, ⟨hq4, hqi⟩, ⟨hh9, hhs, hht⟩, ⟨hm15, hmb⟩, ⟨hL240, htx⟩, hs31⟩ := id hWA; obtain ⟨⟨P, D, hPD, hB, hC, hD⟩, hN, hPa, hIm, hHe, hBk, hTx, hF, hS, hSc⟩ := id hCA
  obtain ⟨b0, b3, b4, b5, b6, b7, b8, b9, b10, b11, b12⟩ := id hB
  obtain ⟨w0, w2, w3, w4, w5, w6, w7, w8, w9⟩ := id hw
  have l8 := longN_8 (n := n) hw
  have h1 : ¬ nI j < (-3 : Int32) := fun q => by
    rw [Int32.lt_iff_toInt_lt, nI_toInt (by omega), show (-3 : Int32).toInt = -3 from rfl] at q
    omega
  have h2 : nI j < nI (c 3) := (nI_ltI (by omega) (by omega)).mpr hj
  have hd : (nI j).toInt < -3 ∨ -1 < (nI j).toInt := by
    rw [nI_toInt (by omega)]
    omega
  refine Er_E (Er_ex ?_)
  refine l_mcl hPD hB hC hN hw hwn hSc h1 h2 (fun ρ v2 v3 v4 hk hmS s5 s6 s7 s8 hV => ?_)
  have b12' : ρ 0 11 = (.ref (114 : Nat)) := (hk _ _ (by omega)).trans b12
  have cg := fun Q => c_guideOf (Q := Q) (x := j) hmS s5 l8 w3 w2 (lenM_8 (n := n) hw) (prM_p (n := n) hw) hV hj
  rw [w102_122, w102_123_d hd]
  simp only [w102_0, w102_1, w102_3, w102_6, w102_7, w102_8, w102_11, w102_14, w102_17, w102_19, w102_20, w102_21, w102_24, w102_25, w102_28, w102_31, w102_32, w102_35, w102_38, w102_41, w102_42, w102_43, w102_44, w102_45, w102_48, w102_51, w102_54, w102_55, w102_56, w102_57, w102_58, w102_61, w102_64, w102_67, w102_68, w102_69, w102_70, w102_73, w102_75, w102_76, w102_79, w102_80, w102_81, w102_83, w102_85, w102_86, w102_89, w102_90, w102_93, w102_94, w102_95, w102_97, w102_100, w102_103, w102_106, w102_109, w102_112, w102_115, w102_116, w102_119, w102_122, w102_148, w102_149, w102_152, w102_155, w102_156, w102_157, w102_160, w102_163, w102_164, w102_165, w102_168, w102_171, w102_172, w102_173, w102_176, w102_177, w102_180, ks_0, ks_114, b12', cg, ↓reduceIte, Option.toList_some, Option.toList_none, List.cons_append, List.nil_append]
  exact ⟨by trivial, KA_km hk hK⟩
end MCX
