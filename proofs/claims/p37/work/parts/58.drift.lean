/-! nights by draws: both sides -/
/-- (so turned that the kernel is stuck at s) -/
def drS (s : Nat) : Nat := (12345 + 1103515245 * s) % 2147483648
def drV (s N : Nat) : Nat := drS s / 65536 % N
theorem drS_eq (s : Nat) : (s * 1103515245 + 12345) % 2147483648 = drS s := by
  unfold drS
  rw [Nat.mul_comm, Nat.add_comm]
theorem drS_lt (s : Nat) : drS s < 2 ^ 31 := by
  unfold drS
  exact Nat.mod_lt _ (by decide)
theorem drV_lt {s N : Nat} (h : 0 < N) : drV s N < N := by
  unfold drV
  exact Nat.mod_lt _ h
theorem lN_and31 (a : Nat) : lN a &&& lN 2147483647 = lN (a % 2147483648) := Int64.toBitVec_inj.mp (by
  rw [Int64.toBitVec_and]
  apply BitVec.eq_of_getLsbD_eq
  intro i hi
  show ((BitVec.ofNat 64 a) &&& (BitVec.ofNat 64 2147483647)).getLsbD i = (BitVec.ofNat 64 (a % 2147483648)).getLsbD i
  rw [BitVec.getLsbD_and, BitVec.getLsbD_ofNat, BitVec.getLsbD_ofNat, BitVec.getLsbD_ofNat, show (2147483648 : Nat) = 2 ^ 31 from rfl, show (2147483647 : Nat) = 2 ^ 31 - 1 from rfl, Nat.testBit_two_pow_sub_one, Nat.testBit_mod_two_pow]
  cases a.testBit i <;> simp [hi])
section DR
variable {σ σ' : dm_G} {Q : Option Value → dm_G → Prop} {S G : Nat} {c n : Nat → Nat} {k : Nat} {p : Nat → Nat → Nat} {q : Nat} {im : Nat → Nat → Nat} {h : Nat} {hs ht : Nat → Nat} {m : Nat} {bg bx : Nat → Nat} {L : Nat} {tx : Nat → Nat} {f : Int32} {s : Nat}
theorem CA_s {s' : Nat} (hCA : CA c n k p q im h hs ht m bg bx L tx f s σ) : CA c n k p q im h hs ht m bg bx L tx f s' (dm_up σ 0 12 (.int (nI s'))) := by
  obtain ⟨h1, h2, h3, h4, h5, h6, h7, h8, h9, h10⟩ := hCA
  have hk : ∀ a b, ¬ (a = 0 ∧ b = 12) → dm_up σ 0 12 (.int (nI s')) a b = σ a b := fun a b z => by rw [up_get, if_neg z]
  exact ⟨cPl_of (fun a b z => hk a b (by omega)) h1, cNo_of (fun a b z => hk a b (by omega)) h2, cPa_of (fun a b z => hk a b (by omega)) h3, cIm_of (fun a b z => hk a b (by omega)) h4, cHe_of (fun a b z => hk a b (by omega)) h5, CBk_of (fun a b z => hk a b (by omega)) h6, cTx_of (fun a b z => hk a b (by omega)) h7, (hk _ _ (by omega)).trans h8, rfl, cSc_of (fun a b z => hk a b (by omega)) h10⟩
theorem WA_s {s' : Nat} (hWA : WA c n k p q im h hs ht m bg bx L tx s) (hs' : s' < 2 ^ 31) : WA c n k p q im h hs ht m bg bx L tx s' := by
  obtain ⟨hw, hwn, ⟨hk16, hkp⟩, ⟨hq4, hqi⟩, ⟨hh9, hhs, hht⟩, ⟨hm15, hmb⟩, ⟨hL240, htx⟩, hs31⟩ := id hWA
  exact ⟨hw, hwn, ⟨hk16, hkp⟩, ⟨hq4, hqi⟩, ⟨hh9, hhs, hht⟩, ⟨hm15, hmb⟩, ⟨hL240, htx⟩, hs'⟩
theorem c_draw {N : Nat} (h1 : 1 ≤ N) (hN : N < 2 ^ 31) (hs31 : s < 2 ^ 31) (hS : σ 0 12 = .int (nI s)) : Cq 99 [(.ref (0 : Nat)), .int (nI N)] σ Q = Q (some (.int (nI (drV s N)))) (dm_up σ 0 12 (.int (nI (drS s)))) := by
  refine Cq_of (Er_of ?_)
  show Wq none 99 0 [some (.ref (0 : Nat)), some (.int (nI N))] [] σ _
  have e1 : dm_up σ 0 12 (.int (nI (drS s))) 0 12 = .int (nI (drS s)) := rfl
  have e2 : (s * 1103515245 + 12345) % 2147483648 = drS s := drS_eq s
  have e3 : ¬ nI N < nI 1 := nI_nlt h1 hN
  have e4 : ¬ nI N = 0 := nI_ne0 (by omega) hN
  have hd := drS_lt s
  have e5 : drS s / 65536 < 2 ^ 31 := Nat.lt_of_le_of_lt (Nat.div_le_self _ _) hd
  simp only [w99_0, w99_1, w99_2, w99_5, w99_6, w99_9, w99_10, w99_13, w99_14, w99_17, w99_18, w99_19, w99_22, w99_23, w99_26, w99_28, w99_29, w99_30, w99_31, w99_34, w99_35, ks_0, hS, nI_l hs31, lN_mul, lN_add, lN_and31, lN_i, e2, e1, (by decide : ¬ nI 65536 = 0), not_false_eq_true, pk_div hd (show 0 < 65536 by decide) (show 65536 < 2 ^ 31 by decide), e3, e4, pk_rem e5 h1 hN, ↓reduceIte, Option.toList_some, Option.toList_none, List.cons_append, List.nil_append, true_and]
  exact ⟨rfl, trivial⟩
/-- one try of a hire by draws -/
def atN (c n : Nat → Nat) (s : Nat) : Nat → Nat := match lwN c n (drV s (c 2)) (drV (drS s) (c 3)) with
  | none => n
  | some d => hiN c n (drV s (c 2)) (drV (drS s) (c 3)) (csN c (n 20) (drV s (c 2)) d)
theorem WN_at (hw : WC c) (hwn : WN c n) (hG : 0 < c 2) (hE : 0 < c 3) : WN c (atN c n s) := by
  unfold atN
  cases lwN c n (drV s (c 2)) (drV (drS s) (c 3)) with
  | none => exact hwn
  | some d => exact WN_hi hw hwn (drV_lt hG) (drV_lt hE)
theorem atN_20 (hw : WC c) (hG : 0 < c 2) : atN c n s 20 = n 20 := by
  unfold atN
  cases lwN c n (drV s (c 2)) (drV (drS s) (c 3)) with
  | none => rfl
  | some d =>
    have h1 : drV s (c 2) < c 2 := drV_lt hG
    have h2 := hw.2.1
    show hiN c n _ _ _ 20 = _
    unfold hiN
    rw [if_neg (by omega), if_neg (by omega), if_neg (by omega), if_neg (by omega)]
theorem l_cAt {i : Nat} {v2 v3 v4 : Option Value} (hi : i < 3) (hWA : WA c n k p q im h hs ht m bg bx L tx s) (hCA : CA c n k p q im h hs ht m bg bx L tx f s σ) (hG : 0 < c 2) (hE : 0 < c 3) : ∃ (τ : dm_G) (u2 u3 u4 : Option Value), (∀ Q : Option Value → dm_G → Prop, Wq none 98 22 [some (.ref (0 : Nat)), some (.int (nI i)), v2, v3, v4] [] σ Q = Wq none 98 22 [some (.ref (0 : Nat)), some (.int (nI (i + 1))), u2, u3, u4] [] τ Q) ∧ CA c (atN c n s) k p q im h hs ht m bg bx L tx f (drS (drS s)) τ ∧ ∀ a b, 118 ≤ a → τ a b = σ a b := by
  obtain ⟨hw, hwn, ⟨hk16, hkp⟩, ⟨hq4, hqi⟩, ⟨hh9, hhs, hht⟩, ⟨hm15, hmb⟩, ⟨hL240, htx⟩, hs31⟩ := id hWA
  have w2 := hw.2.1
  have w3 := hw.2.2.1
  have hi3 : ¬ nI 3 ≤ nI i := nI_ge hi (by omega)
  have hCA0 := hCA
  have hCAa := CA_s (s' := drS s) hCA
  have hCAb := CA_s (s' := drS (drS s)) hCAa
  have hCl : ∀ {τ : dm_G} {s' : Nat}, CA c n k p q im h hs ht m bg bx L tx f s' τ → ∃ P, τ 0 4 = .ref P ∧ KS[P]? = some (0, 1) ∧ τ P 2 = .int (nI (c 2)) ∧ τ P 3 = .int (nI (c 3)) := by
    intro τ s' hCA
    obtain ⟨⟨P, D, hPD, hB, hC, hD⟩, hN, hPa, hIm, hHe, hBk, hTx, hF, hS, hSc⟩ := id hCA
    exact ⟨P, hB.2.2.1, hC.1.1, hC.2.2.1.2.1, hC.2.2.1.2.2.1⟩
  obtain ⟨P0, x1, x2, x3, x4⟩ := hCl hCA
  obtain ⟨P1, y1, y2, y3, y4⟩ := hCl hCAa
  have hS := hCA.2.2.2.2.2.2.2.2.1
  have hSa := hCAa.2.2.2.2.2.2.2.2.1
  have d1 := fun Q => c_draw (Q := Q) (N := c 2) hG (by omega) hs31 hS
  have d2 := fun Q => c_draw (Q := Q) (N := c 3) hE (by omega) (drS_lt s) hSa
  have hg : drV s (c 2) < c 2 := drV_lt hG
  have he : drV (drS s) (c 3) < c 3 := drV_lt hE
  have hsf : ∀ Q : Option Value → dm_G → Prop, Cq 95 [(.ref (0 : Nat)), .int (nI (drV s (c 2))), .int (nI (drV (drS s) (c 3)))] (dm_up (dm_up σ 0 12 (.int (nI (drS s)))) 0 12 (.int (nI (drS (drS s))))) Q = Q (some (.int (oI (lwN c n (drV s (c 2)) (drV (drS s) (c 3)))))) (dm_up (dm_up σ 0 12 (.int (nI (drS s)))) 0 12 (.int (nI (drS (drS s))))) := by
    intro Q
    have hCA := hCAb
    obtain ⟨⟨P, D, hPD, hB, hC, hD⟩, hN, hPa, hIm, hHe, hBk, hTx, hF, hS, hSc⟩ := id hCA
    exact c_streetsFor hB hC hN hw hwn hg he
  have hk : ∀ a b, 118 ≤ a → dm_up (dm_up σ 0 12 (.int (nI (drS s)))) 0 12 (.int (nI (drS (drS s)))) a b = σ a b := fun a b z => (up_hi (by omega) a b z).trans (up_hi (by omega) a b z)
  cases hl : lwN c n (drV s (c 2)) (drV (drS s) (c 3)) with
  | none =>
    rw [hl] at hsf
    refine ⟨dm_up (dm_up σ 0 12 (.int (nI (drS s)))) 0 12 (.int (nI (drS (drS s)))), some (.int (nI (drV s (c 2)))), some (.int (nI (drV (drS s) (c 3)))), some (.int (-1)), fun Q => ?_, by rw [show atN c n s = n from by unfold atN; rw [hl]]; exact hCAb, hk⟩
    rw [w98_22]
    simp only [w98_0, w98_1, w98_4, w98_7, w98_10, w98_11, w98_14, w98_17, w98_20, w98_21, w98_23, w98_24, w98_27, w98_28, w98_29, w98_32, w98_35, w98_38, w98_39, w98_40, w98_41, w98_44, w98_47, w98_50, w98_51, w98_52, w98_53, w98_54, w98_57, w98_59, w98_61, w98_62, w98_65, w98_66, w98_67, w98_68, w98_70, w98_73, w98_74, w98_77, w98_80, w98_81, w98_83, w98_86, w98_89, w98_90, w98_93, w98_93i, w98_94, w98_97, w98_98, w98_99, w98_100, w98_103, w98_106, w98_109, w98_110, w98_111, w98_114, w98_115, w98_118, w98_119, w98_122, ks_0, x1, x2, x3, hi3, d1, y1, y2, y4, d2, hsf, oI, nI_add, ↓reduceIte, Option.toList_some, Option.toList_none, List.cons_append, List.nil_append]
  | some d =>
    rw [hl] at hsf
    have hd := lwN_lt hl
    have w0 := hw.1
    have hm1 : ¬ nI d = -1 := fun q => nI_m1 (show d < 2 ^ 31 by omega) q.symm
    obtain ⟨τ, e1, hCA2, k2⟩ := c_leadA (d := d) (WA_s hWA (drS_lt (drS s))) hCAb hg he (by omega)
    refine ⟨τ, some (.int (nI (drV s (c 2)))), some (.int (nI (drV (drS s) (c 3)))), some (.int (nI d)), fun Q => ?_, by rw [show atN c n s = hiN c n (drV s (c 2)) (drV (drS s) (c 3)) (csN c (n 20) (drV s (c 2)) d) from by unfold atN; rw [hl]]; exact hCA2, fun a b z => (k2 a b z).trans (hk a b z)⟩
    rw [w98_22]
    simp only [w98_0, w98_1, w98_4, w98_7, w98_10, w98_11, w98_14, w98_17, w98_20, w98_21, w98_23, w98_24, w98_27, w98_28, w98_29, w98_32, w98_35, w98_38, w98_39, w98_40, w98_41, w98_44, w98_47, w98_50, w98_51, w98_52, w98_53, w98_54, w98_57, w98_59, w98_61, w98_62, w98_65, w98_66, w98_67, w98_68, w98_70, w98_73, w98_74, w98_77, w98_80, w98_81, w98_83, w98_86, w98_89, w98_90, w98_93, w98_93i, w98_94, w98_97, w98_98, w98_99, w98_100, w98_103, w98_106, w98_109, w98_110, w98_111, w98_114, w98_115, w98_118, w98_119, w98_122, ks_0, x1, x2, x3, hi3, d1, y1, y2, y4, d2, hsf, oI, hm1, e1, nI_add, ↓reduceIte, Option.toList_some, Option.toList_none, List.cons_append, List.nil_append]
/-- three tries -/
def aaN (c n : Nat → Nat) (s : Nat) : Nat → Nat := if 0 < c 2 ∧ 0 < c 3 then atN c (atN c (atN c n s) (drS (drS s))) (drS (drS (drS (drS s)))) else n
def aaS (c : Nat → Nat) (s : Nat) : Nat := if 0 < c 2 ∧ 0 < c 3 then drS (drS (drS (drS (drS (drS s))))) else s
/-- a wall by draws -/
def wdN (c n : Nat → Nat) (s : Nat) : Nat → Nat := if drV s 6 = 0 then up1 n 19 (n 19 ^^^ 1 <<< drV (drS s) (c 0)) else n
def wdS (s : Nat) : Nat := if drV s 6 = 0 then drS (drS s) else drS s
def dwN (c n : Nat → Nat) (s : Nat) : Nat → Nat := wdN c (aaN c n s) (aaS c s)
def dwS (c : Nat → Nat) (s : Nat) : Nat := wdS (aaS c s)
theorem WN_aa (hw : WC c) (hwn : WN c n) : WN c (aaN c n s) := by
  unfold aaN
  split
  · next z => exact WN_at hw (WN_at hw (WN_at hw hwn z.1 z.2) z.1 z.2) z.1 z.2
  · exact hwn
theorem WN_wd (hw : WC c) (hwn : WN c n) (h0 : 0 < c 0) : WN c (wdN c n s) := by
  unfold wdN
  split
  · exact WN_19 hwn hw (Nat.xor_lt_two_pow hwn.2.2.1 (one_shl (drV_lt h0)))
  · exact hwn
theorem aaN_20 (hw : WC c) : aaN c n s 20 = n 20 := by
  unfold aaN
  split
  · next z => rw [atN_20 hw z.1, atN_20 hw z.1, atN_20 hw z.1]
  · rfl
theorem dwN_20 (hw : WC c) : dwN c n s 20 = n 20 := by
  unfold dwN wdN
  split
  · rw [up1_ne (by omega), aaN_20 hw]
  · exact aaN_20 hw
theorem aaS_lt (hs : s < 2 ^ 31) : aaS c s < 2 ^ 31 := by
  unfold aaS
  split
  · exact drS_lt _
  · exact hs
theorem wdS_lt (s : Nat) : wdS s < 2 ^ 31 := by
  unfold wdS
  split <;> exact drS_lt _
def pnN (c n : Nat → Nat) (s : Nat) : Nat → Nat := up1 (up1 (dwN c n s) 20 (n 20 + 1)) 18 0
theorem c_passA (hWA : WA c n k p q im h hs ht m bg bx L tx s) (hCA : CA c n k p q im h hs ht m bg bx L tx f s σ) (h0 : 0 < c 0) : ∃ τ, (∀ Q : Option Value → dm_G → Prop, Cq 98 [(.ref (0 : Nat))] σ Q = Q none τ) ∧ CA c (pnN c n s) k p q im h hs ht m bg bx L tx f (dwS c s) τ ∧ ∀ a b, 118 ≤ a → τ a b = σ a b := by
  obtain ⟨hw, hwn, ⟨hk16, hkp⟩, ⟨hq4, hqi⟩, ⟨hh9, hhs, hht⟩, ⟨hm15, hmb⟩, ⟨hL240, htx⟩, hs31⟩ := id hWA
  have w0 := hw.1
  have w2 := hw.2.1
  have w3 := hw.2.2.1
  -- the tries
  have key : ∃ (τ : dm_G) (u1 u2 u3 u4 : Option Value), (∀ Q : Option Value → dm_G → Prop, Wq none 98 0 [some (.ref (0 : Nat)), none, none, none, none] [] σ Q = Wq none 98 80 [some (.ref (0 : Nat)), u1, u2, u3, u4] [] τ Q) ∧ CA c (aaN c n s) k p q im h hs ht m bg bx L tx f (aaS c s) τ ∧ ∀ a b, 118 ≤ a → τ a b = σ a b := by
    have hCA0 := hCA
    obtain ⟨⟨P, D, hPD, hB, hC, hD⟩, hN, hPa, hIm, hHe, hBk, hTx, hF, hS, hSc⟩ := id hCA
    have kP := hC.1.1
    have b4 := hB.2.2.1
    obtain ⟨-, -, ⟨i0, i2, i3, i4⟩, -⟩ := id hC
    by_cases z2 : 0 < c 2
    · have g2 : ¬ nI (c 2) ≤ nI 0 := nI_ge (by omega) (by omega)
      by_cases z3 : 0 < c 3
      · have g3 : ¬ nI (c 3) ≤ nI 0 := nI_ge (by omega) (by omega)
        obtain ⟨τ1, p2, p3, p4, e1, hC1, k1⟩ := l_cAt (i := 0) (v2 := none) (v3 := none) (v4 := none) (by omega) hWA hCA z2 z3
        have W1 := WA_s (WA_now hWA (WN_at (s := s) hw hwn z2 z3)) (drS_lt (drS s))
        obtain ⟨τ2, q2, q3, q4, e2, hC2, k2⟩ := l_cAt (i := 1) (v2 := p2) (v3 := p3) (v4 := p4) (by omega) W1 hC1 z2 z3
        have W2 := WA_s (WA_now W1 (WN_at (s := drS (drS s)) hw W1.2.1 z2 z3)) (drS_lt (drS (drS (drS s))))
        obtain ⟨τ3, r2, r3, r4, e3, hC3, k3⟩ := l_cAt (i := 2) (v2 := q2) (v3 := q3) (v4 := q4) (by omega) W2 hC2 z2 z3
        refine ⟨τ3, some (.int (nI 3)), r2, r3, r4, fun Q => ?_, ?_, fun a b z => (k3 a b z).trans ((k2 a b z).trans (k1 a b z))⟩
        · simp only [w98_0, w98_1, w98_4, w98_7, w98_10, w98_11, w98_14, w98_17, w98_20, w98_21, w98_23, w98_24, w98_27, w98_28, w98_29, w98_32, w98_35, w98_38, w98_39, w98_40, w98_41, w98_44, w98_47, w98_50, w98_51, w98_52, w98_53, w98_54, w98_57, w98_59, w98_61, w98_62, w98_65, w98_66, w98_67, w98_68, w98_70, w98_73, w98_74, w98_77, w98_81, w98_83, w98_86, w98_89, w98_90, w98_93, w98_93i, w98_94, w98_97, w98_98, w98_99, w98_100, w98_103, w98_106, w98_109, w98_110, w98_111, w98_114, w98_115, w98_118, w98_119, w98_122, ks_0, b4, kP, i2, i3, g2, g3, ↓reduceIte, Option.toList_some, Option.toList_none, List.cons_append, List.nil_append]
          rw [e1, e2, e3]
          simp only [w98_0, w98_1, w98_4, w98_7, w98_10, w98_11, w98_14, w98_17, w98_20, w98_21, w98_22, w98_23, w98_24, w98_27, w98_28, w98_29, w98_32, w98_35, w98_38, w98_39, w98_40, w98_41, w98_44, w98_47, w98_50, w98_51, w98_52, w98_53, w98_54, w98_57, w98_59, w98_61, w98_62, w98_65, w98_66, w98_67, w98_68, w98_70, w98_73, w98_74, w98_77, w98_81, w98_83, w98_86, w98_89, w98_90, w98_93, w98_93i, w98_94, w98_97, w98_98, w98_99, w98_100, w98_103, w98_106, w98_109, w98_110, w98_111, w98_114, w98_115, w98_118, w98_119, w98_122, Nat.reduceAdd, (by decide : nI 3 ≤ nI 3), ↓reduceIte, Option.toList_some, Option.toList_none, List.cons_append, List.nil_append]
        · rw [aaN, if_pos ⟨z2, z3⟩, aaS, if_pos ⟨z2, z3⟩]
          exact hC3
      · have g3 : nI (c 3) ≤ nI 0 := nI_le (by omega) (by omega)
        refine ⟨σ, none, none, none, none, fun Q => ?_, ?_, fun a b _ => rfl⟩
        · simp only [w98_0, w98_1, w98_4, w98_7, w98_10, w98_11, w98_14, w98_17, w98_20, w98_21, w98_23, w98_24, w98_27, w98_28, w98_29, w98_32, w98_35, w98_38, w98_39, w98_40, w98_41, w98_44, w98_47, w98_50, w98_51, w98_52, w98_53, w98_54, w98_57, w98_59, w98_61, w98_62, w98_65, w98_66, w98_67, w98_68, w98_70, w98_73, w98_74, w98_77, w98_81, w98_83, w98_86, w98_89, w98_90, w98_93, w98_93i, w98_94, w98_97, w98_98, w98_99, w98_100, w98_103, w98_106, w98_109, w98_110, w98_111, w98_114, w98_115, w98_118, w98_119, w98_122, ks_0, b4, kP, i2, i3, g2, g3, ↓reduceIte, Option.toList_some, Option.toList_none, List.cons_append, List.nil_append]
        · rw [aaN, if_neg (fun z => z3 z.2), aaS, if_neg (fun z => z3 z.2)]
          exact hCA0
    · have g2 : nI (c 2) ≤ nI 0 := nI_le (by omega) (by omega)
      refine ⟨σ, none, none, none, none, fun Q => ?_, ?_, fun a b _ => rfl⟩
      · simp only [w98_0, w98_1, w98_4, w98_7, w98_10, w98_11, w98_14, w98_17, w98_20, w98_21, w98_23, w98_24, w98_27, w98_28, w98_29, w98_32, w98_35, w98_38, w98_39, w98_40, w98_41, w98_44, w98_47, w98_50, w98_51, w98_52, w98_53, w98_54, w98_57, w98_59, w98_61, w98_62, w98_65, w98_66, w98_67, w98_68, w98_70, w98_73, w98_74, w98_77, w98_81, w98_83, w98_86, w98_89, w98_90, w98_93, w98_93i, w98_94, w98_97, w98_98, w98_99, w98_100, w98_103, w98_106, w98_109, w98_110, w98_111, w98_114, w98_115, w98_118, w98_119, w98_122, ks_0, b4, kP, i2, g2, ↓reduceIte, Option.toList_some, Option.toList_none, List.cons_append, List.nil_append]
      · rw [aaN, if_neg (fun z => z2 z.1), aaS, if_neg (fun z => z2 z.1)]
        exact hCA0
  obtain ⟨τ1, u1, u2, u3, u4, e1, hCA1, k1⟩ := key
  have W1 := WA_s (WA_now hWA (WN_aa (s := s) hw hwn)) (aaS_lt (c := c) hs31)
  have hSa := hCA1.2.2.2.2.2.2.2.2.1
  have d1 := fun Q => c_draw (Q := Q) (N := 6) (by omega) (by omega) (aaS_lt (c := c) hs31) hSa
  have hv6 : drV (aaS c s) 6 < 6 := drV_lt (by omega)
  have hCA2 := CA_s (s' := drS (aaS c s)) hCA1
  have hCA3 := CA_s (s' := drS (drS (aaS c s))) hCA2
  have e20 : dwN c n s 20 = n 20 := dwN_20 hw
  have fin : ∀ {τ : dm_G}, CA c (dwN c n s) k p q im h hs ht m bg bx L tx f (dwS c s) τ → (∀ Q : Option Value → dm_G → Prop, Cq 69 [(.ref (24 : Nat)), .int (nI 1)] τ Q = Q none (dm_up (dm_up τ 24 5 (.int (nI (n 20 + 1)))) 24 4 (.int (nI 0)))) ∧ CA c (pnN c n s) k p q im h hs ht m bg bx L tx f (dwS c s) (dm_up (dm_up τ 24 5 (.int (nI (n 20 + 1)))) 24 4 (.int (nI 0))) := by
    intro τ hC
    refine ⟨fun Q => ?_, CA_nt w2 hC⟩
    rw [c_passNights hC.2.1, e20]
  by_cases hz : drV (aaS c s) 6 = 0
  · have hCl : ∃ P, dm_up τ1 0 12 (.int (nI (drS (aaS c s)))) 0 4 = .ref P ∧ KS[P]? = some (0, 1) ∧ dm_up τ1 0 12 (.int (nI (drS (aaS c s)))) P 0 = .int (nI (c 0)) ∧ dm_up τ1 0 12 (.int (nI (drS (aaS c s)))) 0 5 = (.ref (24 : Nat)) := by
      have hCA := hCA2
      obtain ⟨⟨P, D, hPD, hB, hC, hD⟩, hN, hPa, hIm, hHe, hBk, hTx, hF, hS, hSc⟩ := id hCA
      exact ⟨P, hB.2.2.1, hC.1.1, hC.2.2.1.1, hB.2.2.2.2.1⟩
    obtain ⟨P, x1, x2, x3, x4⟩ := hCl
    have j3 : dm_up τ1 0 12 (.int (nI (drS (aaS c s)))) 24 3 = .int (nI (aaN c n s 19)) := hCA2.2.1.2.2.1.1
    have d2 := fun Q => c_draw (Q := Q) (N := c 0) h0 (by omega) (drS_lt (aaS c s)) (hCA2.2.2.2.2.2.2.2.2.1)
    have hx : drV (drS (aaS c s)) (c 0) < 32 := by
      have : drV (drS (aaS c s)) (c 0) < c 0 := drV_lt h0
      omega
    have hCA4 := CA_f (b := 3) (i := 19) (v := aaN c n s 19 ^^^ 1 <<< drV (drS (aaS c s)) (c 0)) w2 (by omega) hCA3
    have hCA4 : CA c (dwN c n s) k p q im h hs ht m bg bx L tx f (dwS c s) (dm_up (dm_up (dm_up τ1 0 12 (.int (nI (drS (aaS c s))))) 0 12 (.int (nI (drS (drS (aaS c s)))))) 24 3 (.int (nI (aaN c n s 19 ^^^ 1 <<< drV (drS (aaS c s)) (c 0))))) := by
      rw [dwN, wdN, if_pos hz, dwS, wdS, if_pos hz]
      exact hCA4
    obtain ⟨f1, f2⟩ := fin hCA4
    have x5 : dm_up (dm_up (dm_up τ1 0 12 (.int (nI (drS (aaS c s))))) 0 12 (.int (nI (drS (drS (aaS c s)))))) 24 3 (.int (nI (aaN c n s 19 ^^^ 1 <<< drV (drS (aaS c s)) (c 0)))) 0 5 = (.ref (24 : Nat)) := x4
    refine ⟨_, fun Q => Cq_of (Er_of ?_), f2, fun a b z => (up_hi (by omega) a b z).trans ((up_hi (by omega) a b z).trans ((up_hi (by omega) a b z).trans ((up_hi (by omega) a b z).trans ((up_hi (by omega) a b z).trans (k1 a b z)))))⟩
    show Wq none 98 0 [some (.ref (0 : Nat)), none, none, none, none] [] σ _
    rw [e1]
    have b6 : τ1 0 5 = (.ref (24 : Nat)) := x4
    simp only [w98_0, w98_1, w98_4, w98_7, w98_10, w98_11, w98_14, w98_17, w98_20, w98_21, w98_23, w98_24, w98_27, w98_28, w98_29, w98_32, w98_35, w98_38, w98_39, w98_40, w98_41, w98_44, w98_47, w98_50, w98_51, w98_52, w98_53, w98_54, w98_57, w98_59, w98_61, w98_62, w98_65, w98_66, w98_67, w98_68, w98_70, w98_73, w98_74, w98_77, w98_80, w98_81, w98_83, w98_86, w98_89, w98_90, w98_93, w98_93i, w98_94, w98_97, w98_98, w98_99, w98_100, w98_103, w98_106, w98_109, w98_110, w98_111, w98_114, w98_115, w98_118, w98_119, w98_122, ks_0, ks_24, d1, hz, x4, j3, x1, x2, x3, d2, nI_shl 1 hx, nI_xor, x5, f1, ↓reduceIte, Option.toList_some, Option.toList_none, List.cons_append, List.nil_append, and_self]
  · have hne : ¬ nI (drV (aaS c s) 6) = nI 0 := fun z => hz (nI_inj (by omega) (by omega) z)
    have hCA4 : CA c (dwN c n s) k p q im h hs ht m bg bx L tx f (dwS c s) (dm_up τ1 0 12 (.int (nI (drS (aaS c s))))) := by
      rw [dwN, wdN, if_neg hz, dwS, wdS, if_neg hz]
      exact hCA2
    obtain ⟨f1, f2⟩ := fin hCA4
    have x4 : dm_up τ1 0 12 (.int (nI (drS (aaS c s)))) 0 5 = (.ref (24 : Nat)) := by
      have hCA := hCA2
      obtain ⟨⟨P, D, hPD, hB, hC, hD⟩, hN, hPa, hIm, hHe, hBk, hTx, hF, hS, hSc⟩ := id hCA
      exact hB.2.2.2.2.1
    refine ⟨_, fun Q => Cq_of (Er_of ?_), f2, fun a b z => (up_hi (by omega) a b z).trans ((up_hi (by omega) a b z).trans ((up_hi (by omega) a b z).trans (k1 a b z)))⟩
    show Wq none 98 0 [some (.ref (0 : Nat)), none, none, none, none] [] σ _
    rw [e1]
    simp only [w98_0, w98_1, w98_4, w98_7, w98_10, w98_11, w98_14, w98_17, w98_20, w98_21, w98_23, w98_24, w98_27, w98_28, w98_29, w98_32, w98_35, w98_38, w98_39, w98_40, w98_41, w98_44, w98_47, w98_50, w98_51, w98_52, w98_53, w98_54, w98_57, w98_59, w98_61, w98_62, w98_65, w98_66, w98_67, w98_68, w98_70, w98_73, w98_74, w98_77, w98_80, w98_81, w98_83, w98_86, w98_89, w98_90, w98_93, w98_93i, w98_94, w98_97, w98_98, w98_99, w98_100, w98_103, w98_106, w98_109, w98_110, w98_111, w98_114, w98_115, w98_118, w98_119, w98_122, ks_0, ks_24, d1, hne, x4, f1, ↓reduceIte, Option.toList_some, Option.toList_none, List.cons_append, List.nil_append, and_self]
end DR
