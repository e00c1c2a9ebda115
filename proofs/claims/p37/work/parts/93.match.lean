/-! what the law asks of a match, purely -/
section PM
variable {len : Nat → Nat → Option Nat} {pr : Nat → Nat → Nat} {G l n : Nat}
theorem wg_key : ∀ (L : List (Nat → Nat)) (B : Option ((Nat × Nat × Nat) × (Nat → Nat))) (b : (Nat × Nat × Nat) × (Nat → Nat)), (∀ b0, B = some b0 → b0.1 = keR len pr G n b0.2) → L.foldl (wgF len pr G n) B = some b → b.1 = keR len pr G n b.2 := by
  intro L
  induction L with
  | nil => intro B b h e; exact h b e
  | cons r L ih =>
    intro B b h e
    refine ih (wgF len pr G n B r) b (fun b0 e0 => ?_) e
    cases B with
    | none =>
      have e0 : some (keR len pr G n r, r) = some b0 := e0
      rw [← Option.some.inj e0]
    | some b1 =>
      rw [wgF_s] at e0
      split at e0
      · rw [← Option.some.inj e0]
      · rw [← Option.some.inj e0]
        exact h b1 rfl
theorem row_key (hp : ∀ e g, pr e g ≤ 792) (hl : ∀ e g d, len e g = some d → d ≤ 8) (hn : n ≤ 6) : keR len pr G n (gRw len pr G (longN len pr G n) n) = (mostN len pr G n, longN len pr G n, costN len pr G n) := by
  obtain ⟨ro, h1, h2⟩ := best_row (G := G) hp hl hn (fun _ => 0)
  have h3 : (mostN len pr G n, longN len pr G n, costN len pr G n) = keR len pr G n ro := wg_key _ _ _ (fun b0 e0 => by cases e0) h1
  rw [h3]
  exact keR_cg (fun j hj => (h2 j hj).symm)
theorem tkR_tb {r : Nat → Nat} {x : Nat} : ∀ N, (tkR G r N).testBit x = true ↔ ∃ i, i < N ∧ r i = x ∧ x < G := by
  intro N
  induction N with
  | zero => simp [tkR]
  | succ N ih =>
    rw [tkR]
    by_cases h : r N < G
    · rw [if_pos h, Nat.testBit_or, tb_shl1, Bool.or_eq_true, ih, decide_eq_true_eq]
      constructor
      · rintro (⟨i, h1, h2, h3⟩ | h1)
        · exact ⟨i, by omega, h2, h3⟩
        · exact ⟨N, by omega, h1, by omega⟩
      · rintro ⟨i, h1, h2, h3⟩
        by_cases hi : i = N
        · subst hi; exact Or.inr h2
        · exact Or.inl ⟨i, by omega, h2, h3⟩
    · rw [if_neg h, ih]
      constructor
      · rintro ⟨i, h1, h2, h3⟩
        exact ⟨i, by omega, h2, h3⟩
      · rintro ⟨i, h1, h2, h3⟩
        by_cases hi : i = N
        · subst hi; omega
        · exact ⟨i, by omega, h2, h3⟩
theorem mnR_up {r : Nat → Nat} {e k : Nat} (he : r e = G) (hk : k < G) : ∀ N, mnR G (up1 r e k) N = mnR G r N + (if e < N then 1 else 0) := by
  intro N
  induction N with
  | zero => rfl
  | succ N ih =>
    rw [mnR, mnR, ih]
    by_cases h : N = e
    · subst h
      rw [up1_eq, if_pos hk, if_neg (Nat.lt_irrefl _), if_neg (by omega), if_pos (by omega)]
    · rw [up1_ne h]
      by_cases h2 : e < N
      · rw [if_pos h2, if_pos (show e < N + 1 by omega)]
        split <;> omega
      · rw [if_neg h2, if_neg (show ¬ e < N + 1 by omega)]
        split <;> omega
/-- nobody who is left could be led by one who is left -/
theorem row_max (hp : ∀ e g, pr e g ≤ 792) (hl : ∀ e g d, len e g = some d → d ≤ 8) (hn : n ≤ 6) {r : Nat → Nat} (hf : feR len G r n) (hm : mnR G r n = mostN len pr G n) {e k : Nat} (he : e < n) (hr : r e = G) (hk : k < G) (hfree : ∀ i, i < n → r i ≠ k) : len e k = none := by
  cases hk2 : len e k with
  | none => rfl
  | some d =>
    exfalso
    have hf2 : feR len G (up1 r e k) n := by
      intro e' he'
      have nt : ∀ x, x ≠ k → (tkR G r e').testBit x = false → (tkR G (up1 r e k) e').testBit x = false := by
        intro x hx h1
        apply Bool.eq_false_iff.mpr
        intro h2
        obtain ⟨i, h3, h4, h5⟩ := (tkR_tb _).mp h2
        by_cases hi : i = e
        · subst hi
          rw [up1_eq] at h4
          exact hx h4.symm
        · rw [up1_ne hi] at h4
          rw [(tkR_tb _).mpr ⟨i, h3, h4, h5⟩] at h1
          cases h1
      by_cases h : e' = e
      · subst h
        rw [up1_eq]
        refine ⟨by omega, fun _ => ⟨(by rw [hk2]; exact Option.some_ne_none d), ?_⟩⟩
        apply Bool.eq_false_iff.mpr
        intro h2
        obtain ⟨i, h3, h4, h5⟩ := (tkR_tb _).mp h2
        rw [up1_ne (by omega)] at h4
        exact hfree i (by omega) h4
      · rw [up1_ne h]
        obtain ⟨h1, h2⟩ := hf e' he'
        exact ⟨h1, fun h3 => ⟨(h2 h3).1, nt _ (hfree e' he') (h2 h3).2⟩⟩
    have h1 := mn_up (l := 8) hp hn hf2 (lgR_le8 hl n)
    rw [mnR_up hr hk, if_pos he, hm] at h1
    unfold mostN at h1
    omega
end PM
section PM2
variable {c n : Nat → Nat}
/-- by whom each is led; c 2: by nobody -/
def mrN (c n : Nat → Nat) : Nat → Nat := gRw (lenM c n) (prM c n) (c 2) (longN (lenM c n) (prM c n) (c 2) (c 3)) (c 3)
theorem mt_mr {e : Nat} (he : e < c 3) : (mtN c n e = none ∧ mrN c n e = c 2) ∨ (mtN c n e = some (mrN c n e) ∧ mrN c n e < c 2) := by
  unfold mrN mtN gRw
  cases hch : chO (lenM c n) (prM c n) (c 2) (longN (lenM c n) (prM c n) (c 2) (c 3)) (c 3 - e) e (gtk (lenM c n) (prM c n) (c 2) (longN (lenM c n) (prM c n) (c 2) (c 3)) (c 3) e) with
  | none => exact Or.inl ⟨rfl, rfl⟩
  | some g =>
    rw [show c 3 - e = (c 3 - e - 1) + 1 by omega] at hch
    exact Or.inr ⟨rfl, (ch_s hch).1⟩
theorem pm_fe : feR (lenM c n) (c 2) (mrN c n) (c 3) := gRw_ok.1
theorem pm_key (hw : WC c) : mnR (c 2) (mrN c n) (c 3) = mostN (lenM c n) (prM c n) (c 2) (c 3) ∧ lgR (lenM c n) (c 2) (mrN c n) (c 3) = longN (lenM c n) (prM c n) (c 2) (c 3) ∧ coR (prM c n) (c 2) (mrN c n) (c 3) = costN (lenM c n) (prM c n) (c 2) (c 3) := by
  have h := row_key (G := c 2) (n := c 3) (prM_p (n := n) hw) (lenM_8 (n := n) hw) hw.2.2.1
  have h2 := Prod.mk.inj h
  have h3 := Prod.mk.inj h2.2
  exact ⟨h2.1, h3.1, h3.2⟩
theorem pm_max (hw : WC c) {e k : Nat} (he : e < c 3) (hr : mrN c n e = c 2) (hk : k < c 2) (hfree : ∀ i, i < c 3 → mrN c n i ≠ k) : lwN c n k e = none := row_max (len := (lenM c n)) (prM_p (n := n) hw) (lenM_8 (n := n) hw) hw.2.2.1 pm_fe (pm_key hw).1 he hr hk hfree
end PM2
