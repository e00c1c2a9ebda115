/-! nights by draws: the reference, and drift -/
section DS
variable {σ σ' : dm_G} {Q : Option Value → dm_G → Prop} {S G : Nat} {c n : Nat → Nat} {k : Nat} {p : Nat → Nat → Nat} {q : Nat} {im : Nat → Nat → Nat} {h : Nat} {hs ht : Nat → Nat} {m : Nat} {bg bx : Nat → Nat} {L : Nat} {tx : Nat → Nat} {f : Int32} {s : Nat}
/-- nights by draws -/
def diN (c : Nat → Nat) : Nat → (Nat → Nat) → Nat → (Nat → Nat) × Nat := fun r => match r with
  | 0 => fun n s => (n, s)
  | r + 1 => fun n s => diN c r (pnN c n s) (dwS c s)
theorem WN_pn (hw : WC c) (hwn : WN c n) (h0 : 0 < c 0) (h20 : n 20 + 1 ≤ 9060) : WN c (pnN c n s) := WN_nt (WN_wd hw (WN_aa hw hwn) h0) hw h20
theorem pnN_20 : pnN c n s 20 = n 20 + 1 := by
  unfold pnN
  rw [up1_ne (by omega), up1_eq]
theorem diN_W (h0 : 0 < c 0) : ∀ (r : Nat) (n : Nat → Nat) (s : Nat), WA c n k p q im h hs ht m bg bx L tx s → n 20 + r ≤ 9060 → WA c (diN c r n s).1 k p q im h hs ht m bg bx L tx (diN c r n s).2 := by
  intro r
  induction r with
  | zero => intro n s hW _; exact hW
  | succ r ih =>
    intro n s hW h20
    refine ih (pnN c n s) (dwS c s) (WA_s (WA_now hW (WN_pn hW.1 hW.2.1 h0 (by omega))) (wdS_lt _)) ?_
    rw [pnN_20]
    omega
theorem l_cDr {d : Nat} {v2 : Option Value} (hd : d < 2 ^ 31) (h0 : 0 < c 0) : ∀ (r i : Nat) (n : Nat → Nat) (s : Nat) (σ : dm_G), i + r = d → WA c n k p q im h hs ht m bg bx L tx s → CA c n k p q im h hs ht m bg bx L tx f s σ → n 20 + r ≤ 9060 → ∃ τ, (∀ Q : Option Value → dm_G → Prop, Wq none 92 25 [some (.ref (0 : Nat)), some (.int (nI d)), v2, some (.int (nI i))] [] σ Q = Q (some (.int (nI ((diN c r n s).1 21)))) τ) ∧ CA c (diN c r n s).1 k p q im h hs ht m bg bx L tx f (diN c r n s).2 τ ∧ ∀ a b, 118 ≤ a → τ a b = σ a b := by
  intro r
  induction r with
  | zero =>
    intro i n s σ hi hWA hCA h20
    obtain rfl : i = d := by omega
    refine ⟨σ, fun Q => ?_, hCA, fun a b _ => rfl⟩
    obtain ⟨⟨P, D, hPD, hB, hC, hD⟩, hN, hPa, hIm, hHe, hBk, hTx, hF, hS, hSc⟩ := id hCA
    obtain ⟨b0, b3, b4, b5, b6, b7, b8, b9, b10, b11, b12⟩ := id hB
    have j6 := hN.2.2.1.2.2.2
    rw [w92_25]
    simp only [w92_0, w92_1, w92_2, w92_5, w92_6, w92_7, w92_10, w92_11, w92_12, w92_13, w92_16, w92_17, w92_20, w92_23, w92_24, w92_26, w92_27, w92_30, w92_31, w92_34, w92_37, w92_40, w92_41, w92_44, w92_47, ks_0, ks_24, nI_le (Nat.le_refl i) hd, b6, j6, ↓reduceIte, Option.toList_some, Option.toList_none, List.cons_append, List.nil_append]
    rfl
  | succ r ih =>
    intro i n s σ hi hWA hCA h20
    have h1 : ¬ nI d ≤ nI i := nI_ge (by omega) hd
    obtain ⟨τ1, e1, hC1, k1⟩ := c_passA hWA hCA h0
    obtain ⟨τ2, e2, hC2, k2⟩ := ih (i + 1) (pnN c n s) (dwS c s) τ1 (by omega) (WA_s (WA_now hWA (WN_pn hWA.1 hWA.2.1 h0 (by omega))) (wdS_lt _)) hC1 (by rw [pnN_20]; omega)
    refine ⟨τ2, fun Q => ?_, hC2, fun a b z => (k2 a b z).trans (k1 a b z)⟩
    rw [w92_25]
    simp only [w92_0, w92_1, w92_2, w92_5, w92_6, w92_7, w92_10, w92_11, w92_12, w92_13, w92_16, w92_17, w92_20, w92_23, w92_24, w92_26, w92_27, w92_30, w92_31, w92_34, w92_37, w92_40, w92_41, w92_44, w92_47, ks_0, h1, e1, nI_add, ↓reduceIte, Option.toList_some, Option.toList_none, List.cons_append, List.nil_append]
    exact e2 Q
end DS
