/-! what is heard: both sides as calls -/
theorem psN_cg {c ht ht' : Nat → Nat} {x : Nat} : ∀ k, (∀ j, 1 ≤ j → j ≤ k → ht' j = ht j) → psN c ht' x k = psN c ht x k := by
  intro k
  induction k with
  | zero => intro _; rfl
  | succ k ih =>
    intro h
    rw [psN, psN, ih (fun j h1 h2 => h j h1 (by omega)), h (k + 1) (by omega) (Nat.le_refl _)]
theorem okN_cg {c hs hs' ht ht' : Nat → Nat} {x : Nat} : ∀ k, (∀ j, j ≤ k → hs' j = hs j) → (∀ j, 1 ≤ j → j ≤ k → ht' j = ht j) → okN c hs' ht' x k = okN c hs ht x k := by
  intro k
  induction k with
  | zero => intro h _; rw [okN, okN, h 0 (Nat.le_refl _)]
  | succ k ih =>
    intro h h2
    rw [okN, okN, ih (fun j h3 => h j (by omega)) (fun j h3 h4 => h2 j h3 (by omega)), psN_cg (k + 1) h2, h (k + 1) (Nat.le_refl _)]
theorem stN_cg {c hs hs' ht ht' : Nat → Nat} {k : Nat} (h : ∀ j, j ≤ k → hs' j = hs j) (h2 : ∀ j, 1 ≤ j → j ≤ k → ht' j = ht j) : ∀ x, stN c hs' ht' k x = stN c hs ht k x := by
  intro x
  induction x with
  | zero => rfl
  | succ x ih => rw [stN, stN, ih, okN_cg k h h2]
section HE
variable {σ σ' : dm_G} {Q : Option Value → dm_G → Prop} {S G : Nat} {c n : Nat → Nat} {k : Nat} {p : Nat → Nat → Nat} {q : Nat} {im : Nat → Nat → Nat} {h : Nat} {hs ht : Nat → Nat} {m : Nat} {bg bx : Nat → Nat} {L : Nat} {tx : Nat → Nat} {f : Int32} {s : Nat}
-- listen
def gpG (c : Nat → Nat) (s t x : Nat) : Nat → Nat := fun sd => match sd with
  | 0 => 0
  | sd + 1 => max (gpG c s t x sd) (cnS c s t sd x)
theorem gpG_N (c : Nat → Nat) (s t : Nat) : ∀ sd, gpG c s t (c 0) sd = gpN c s t sd := by
  intro sd
  induction sd with
  | zero => rfl
  | succ sd ih => rw [gpG, gpN, ih]
theorem gpG_6 (c : Nat → Nat) (s t x : Nat) : gpG c s t x 6 = max (max (max (max (max (max 0 (cnS c s t 0 x)) (cnS c s t 1 x)) (cnS c s t 2 x)) (cnS c s t 3 x)) (cnS c s t 4 x)) (cnS c s t 5 x) := rfl
theorem cnS_S (c : Nat → Nat) (s t sd x : Nat) : cnS c s t sd (x + 1) = if s.testBit x = true ∧ c (5 + Tn c x t) = sd then cnS c s t sd x + 1 else cnS c s t sd x := rfl
theorem gpG_y {c : Nat → Nat} {s t x : Nat} (hb : s.testBit x = true) (h6 : c (5 + Tn c x t) < 6) : gpG c s t (x + 1) 6 = max (gpG c s t x 6) (cnS c s t (c (5 + Tn c x t)) x + 1) := by
  rw [gpG_6, gpG_6]
  simp only [cnS_S, hb, true_and]
  generalize c (5 + Tn c x t) = e at h6 ⊢
  rcases (by omega : e = 0 ∨ e = 1 ∨ e = 2 ∨ e = 3 ∨ e = 4 ∨ e = 5) with rfl | rfl | rfl | rfl | rfl | rfl
  all_goals
    simp (decide := true) only [if_true, if_false]
    omega
theorem gpG_n {c : Nat → Nat} {s t x : Nat} (hb : ¬ s.testBit x = true) : gpG c s t (x + 1) 6 = gpG c s t x 6 := by
  rw [gpG_6, gpG_6]
  simp only [cnS_S, hb, false_and, if_false, Bool.false_eq_true]
end HE
