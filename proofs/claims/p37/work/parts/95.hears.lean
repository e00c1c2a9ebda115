/-! what the law asks of what is heard, purely -/
section PH
variable {c hs ht : Nat → Nat}
theorem he_tb {k y : Nat} : ∀ N, (heN c hs ht k N).testBit y = true ↔ ∃ x, x < N ∧ okN c hs ht x k = true ∧ psN c ht x k = y := by
  intro N
  induction N with
  | zero => simp [heN]
  | succ N ih =>
    rw [heN]
    by_cases h : okN c hs ht N k = true
    · rw [if_pos h, Nat.testBit_or, tb_shl1, Bool.or_eq_true, ih, decide_eq_true_eq]
      constructor
      · rintro (⟨x, h1, h2, h3⟩ | h1)
        · exact ⟨x, by omega, h2, h3⟩
        · exact ⟨N, by omega, h, h1⟩
      · rintro ⟨x, h1, h2, h3⟩
        by_cases hx : x = N
        · subst hx; exact Or.inr h3
        · exact Or.inl ⟨x, by omega, h2, h3⟩
    · rw [if_neg h, ih]
      constructor
      · rintro ⟨x, h1, h2, h3⟩
        exact ⟨x, by omega, h2, h3⟩
      · rintro ⟨x, h1, h2, h3⟩
        by_cases hx : x = N
        · subst hx; exact absurd h2 h
        · exact ⟨x, by omega, h2, h3⟩
theorem cnt_new {s y : Nat} (hy : s.testBit y = false) : ∀ N, y < N → cnt (s ||| 1 <<< y) N = cnt s N + 1 := by
  intro N
  induction N with
  | zero => intro h; omega
  | succ N ih =>
    intro h
    rw [cnt, cnt, Nat.testBit_or, tb_shl1]
    by_cases hN : y = N
    · subst hN
      have e : cnt (s ||| 1 <<< y) y = cnt s y := by
        have key : ∀ M, M ≤ y → cnt (s ||| 1 <<< y) M = cnt s M := by
          intro M
          induction M with
          | zero => intro _; rfl
          | succ M ih2 =>
            intro hM
            rw [cnt, cnt, ih2 (by omega), Nat.testBit_or, tb_shl1, decide_eq_false (show ¬ y = M by omega), Bool.or_false]
        exact key y (Nat.le_refl _)
      rw [e, hy]
      simp
    · rw [ih (by omega), decide_eq_false hN, Bool.or_false]
      omega
/-- not more places than beginnings -/
theorem he_st {k : Nat} : ∀ N, N ≤ 8 → cnt (heN c hs ht k N) 8 ≤ cnt (stN c hs ht k N) 8 := by
  intro N
  induction N with
  | zero => intro _; exact Nat.le_refl _
  | succ N ih =>
    intro hN
    rw [heN, stN]
    split
    · have h1 := cnt_or1 (s := heN c hs ht k N) (y := psN c ht N k) 8
      rw [cnt_new (tb_lt (stN_lt N) (Nat.le_refl N)) 8 (by omega)]
      have h2 := ih (by omega)
      split at h1 <;> omega
    · exact ih (by omega)
/-- where one is behind a turn t, the sound e being heard there -/
def imS (c : Nat → Nat) (s t e : Nat) : Nat → Nat := fun x => match x with
  | 0 => 0
  | x + 1 => if s.testBit x = true ∧ c (5 + Tn c x t) = e then imS c s t e x ||| 1 <<< Tn c x t else imS c s t e x
theorem imS_tb {s t e y : Nat} : ∀ N, (∃ x, x < N ∧ s.testBit x = true ∧ c (5 + Tn c x t) = e ∧ Tn c x t = y) → (imS c s t e N).testBit y = true := by
  intro N
  induction N with
  | zero => rintro ⟨x, h, -⟩; omega
  | succ N ih =>
    rintro ⟨x, h1, h2, h3, h4⟩
    rw [imS]
    by_cases hx : x = N
    · subst hx
      rw [if_pos ⟨h2, h3⟩, Nat.testBit_or, tb_shl1, decide_eq_true h4, Bool.or_true]
    · have h5 := ih ⟨x, by omega, h2, h3, h4⟩
      split
      · rw [Nat.testBit_or, h5]; rfl
      · exact h5
theorem imS_cnt {s t e : Nat} : ∀ N, cnt (imS c s t e N) 8 ≤ cnS c s t e N := by
  intro N
  induction N with
  | zero => exact (by decide : cnt 0 8 ≤ 0)
  | succ N ih =>
    rw [imS, cnS]
    split
    · have := cnt_or1 (s := imS c s t e N) (y := Tn c N t) 8
      split at this <;> omega
    · exact ih
theorem cnS_cnt {s t e : Nat} : ∀ N, cnS c s t e N ≤ cnt s N := by
  intro N
  induction N with
  | zero => exact Nat.le_refl _
  | succ N ih =>
    rw [cnS, cnt]
    split
    · next h => rw [if_pos h.1]; omega
    · omega
theorem cnt_up {s : Nat} : ∀ M N, M ≤ N → cnt s M ≤ cnt s N := by
  intro M N h
  induction N with
  | zero => rw [show M = 0 by omega]; exact Nat.le_refl _
  | succ N ih =>
    by_cases hM : M = N + 1
    · rw [hM]; exact Nat.le_refl _
    · rw [cnt]
      have := ih (by omega)
      omega
theorem cnS_gp {s t e : Nat} : ∀ sd, e < sd → cnS c s t e (c 0) ≤ gpN c s t sd := by
  intro sd
  induction sd with
  | zero => intro h; omega
  | succ sd ih =>
    intro h
    rw [gpN]
    by_cases he : e = sd
    · subst he; omega
    · have := ih (by omega)
      omega
/-- a turn more: no more places; by the turn to listen to: fewer -/
theorem he_next {k t e : Nat} (hw : WC c) (hht : ∀ k, ht k < 3) (h1 : ht (k + 1) = t) (h2 : hs (k + 1) = e) : cnt (heN c hs ht (k + 1) (c 0)) 8 ≤ cnS c (heN c hs ht k (c 0)) t e (c 0) := by
  refine Nat.le_trans (cnt_mono (fun y hy => ?_) 8) (imS_cnt (c 0))
  obtain ⟨x, h3, h4, h5⟩ := (he_tb _).mp hy
  rw [okN, Bool.and_eq_true, decide_eq_true_eq] at h4
  have e1 : psN c ht x (k + 1) = Tn c (psN c ht x k) t := by rw [psN, h1]
  have hp : (heN c hs ht k (c 0)).testBit (psN c ht x k) = true := (he_tb _).mpr ⟨x, h3, h4.1, rfl⟩
  have hlt : psN c ht x k < c 0 := psN_lt hw hht h3 k
  exact imS_tb _ ⟨psN c ht x k, hlt, hp, by rw [← e1, h4.2, h2], by rw [← e1, h5]⟩
theorem lt_some {s : Nat} : ∀ T, (ltN c s T).2 ≤ pcN s ∧ ∀ t, (ltN c s T).1 = some t → t < T ∧ gpN c s t 6 < pcN s := by
  intro T
  induction T with
  | zero => exact ⟨Nat.le_refl _, fun t h => by cases h⟩
  | succ T ih =>
    rw [ltN]
    split
    · next h =>
      refine ⟨by have := ih.1; show gpN c s T 6 ≤ _; omega, fun t ht => ?_⟩
      have ht : some T = some t := ht
      cases ht
      exact ⟨by omega, by have := ih.1; omega⟩
    · exact ⟨ih.1, fun t ht => ⟨by have := (ih.2 t ht).1; omega, (ih.2 t ht).2⟩⟩
theorem pc_cnt : ∀ s, s < 256 → pcN s = cnt s 8 := by decide +kernel
end PH
