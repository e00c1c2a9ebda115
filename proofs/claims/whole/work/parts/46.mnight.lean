/-! the reference's nights -/
def ngF (σ : dm_G) (n : Nat → Nat) (k : Nat) : dm_G := if k = 0 then σ else dm_up (dm_up σ 121 18 (.int (nI 0))) 121 20 (.int (nI (n 20 + k)))
def n1N (n : Nat → Nat) : Nat → Nat := fun i => if i = 20 then n 20 + 1 else if i = 18 then 0 else n i
section NG
variable {Q : Option Value → dm_G → Prop}
theorem ngF_1 {σ : dm_G} {n : Nat → Nat} : dm_up (dm_up σ 121 18 (.int (nI 0))) 121 20 (.int (nI (n 20 + 1))) = ngF σ n 1 := rfl
theorem MN_1 {σ : dm_G} {n : Nat → Nat} (hn : MN σ n) : MN (ngF σ n 1) (n1N n) := by
  intro i hi
  rw [← ngF_1, gi_up, gi_up, n1N]
  by_cases a : i = 20
  · rw [if_pos ⟨rfl, a⟩, if_pos a]
  · rw [if_neg (fun z => a z.2), if_neg a]
    by_cases b : i = 18
    · rw [if_pos ⟨rfl, b⟩, if_pos b]
    · rw [if_neg (fun z => b z.2), if_neg b]
      exact hn i hi
theorem ngF_S {σ : dm_G} {n : Nat → Nat} (f : Nat) : ngF (ngF σ n 1) (n1N n) f = ngF σ n (f + 1) := by
  have e : n1N n 20 = n 20 + 1 := rfl
  by_cases h : f = 0
  · subst h
    rfl
  · rw [ngF, if_neg h, e, ← ngF_1, ngF, if_neg (by omega)]
    funext a b
    simp only [dm_up]
    by_cases h1 : a = 121 ∧ b = 20
    · rw [if_pos h1, if_pos h1, show n 20 + 1 + f = n 20 + (f + 1) by omega]
    · rw [if_neg h1, if_neg h1]
      by_cases h2 : a = 121 ∧ b = 18
      · rw [if_pos h2, if_pos h2, if_neg h1]
      · simp only [h1, h2, if_false]
theorem l_mNight {d : Nat} {v : Option Value} (hd : d < 2 ^ 31) : ∀ (f k : Nat) (σ : dm_G) (n : Nat → Nat), k + f = d → MR σ → MN σ n → Wq none 168 18 [some (.ref (118 : Nat)), some (.int (nI d)), v, some (.int (nI k))] [] σ Q = Q (some (.int (nI (n 20 + f)))) (ngF σ n f) := by
  intro f
  induction f with
  | zero =>
    intro k σ n hk hM hn
    obtain ⟨m0, m1, m2, m3, m5, m6, m8, m11, m12, m14, m22, m23, m24, m25, m29, m30, m31, m32⟩ := id hM
    obtain rfl : k = d := by omega
    have h1 : nI k ≤ nI k := nI_le (Nat.le_refl _) (by omega)
    rw [w168_18]
    simp only [w168_0, w168_1, w168_2, w168_5, w168_6, w168_7, w168_10, w168_11, w168_12, w168_13, w168_16, w168_17, w168_19, w168_20, w168_23, w168_24, w168_27, w168_30, w168_33, w168_34, w168_37, w168_39, w168_40, ks_118, m2, kt_121, h1, in_nI (show 20 < kl 121 by rw [kl_121]; omega) (by rw [kl_121]; omega), nI_clamp (show 20 < 2 ^ 31 by omega), hn 20 (by omega), Nat.add_zero, ↓reduceIte, Option.toList_some, Option.toList_none, List.cons_append, List.nil_append]
    rfl
  | succ f ih =>
    intro k σ n hk hM hn
    have h1 : ¬ nI d ≤ nI k := nI_ge (by omega) (by omega)
    have hM1 : MR (ngF σ n 1) := hM
    have ih := ih (k + 1) (ngF σ n 1) (n1N n) (by omega) hM1 (MN_1 hn)
    rw [ngF_S, show n1N n 20 + f = n 20 + (f + 1) from by show n 20 + 1 + f = _; omega] at ih
    rw [w168_18]
    simp only [w168_0, w168_1, w168_2, w168_5, w168_6, w168_7, w168_10, w168_11, w168_12, w168_13, w168_16, w168_17, w168_19, w168_20, w168_23, w168_24, w168_27, w168_30, w168_33, w168_34, w168_37, w168_39, w168_40, ks_118, h1, c_nightGoes hM hn, ngF_1, nI_add, ↓reduceIte, Option.toList_some, Option.toList_none, List.cons_append, List.nil_append]
    exact ih
/-- what remember leaves -/
def rmF (σ : dm_G) (u : Nat) : dm_G := if u = 16 then reF (dm_up (reL σ 330) 118 4 (.int (nI 15))) 15 else reF σ u
theorem rmF_MR {σ : dm_G} {u : Nat} (hM : MR σ) : MR (rmF σ u) := by
  unfold rmF
  split <;> exact hM
theorem rmF_cell {σ : dm_G} {u a b : Nat} (h1 : a ≠ 122) (h2 : ¬ (a = 118 ∧ b = 4)) : rmF σ u a b = σ a b := by
  unfold rmF
  split
  · unfold reF
    rw [up_get, if_neg h2]
    unfold cpL
    rw [if_neg (fun z => h1 z.1), up_get, if_neg h2, reL_fld h1]
  · unfold reF
    rw [up_get, if_neg h2]
    unfold cpL
    rw [if_neg (fun z => h1 z.1)]
theorem rmF_MN {σ : dm_G} {n : Nat → Nat} {u : Nat} (hn : MN σ n) : MN (rmF σ u) n := by
  intro i hi
  unfold gi
  rw [rmF_cell (by omega) (by omega)]
  exact hn i hi
theorem c_mNight_r {σ : dm_G} {c n : Nat → Nat} {j : Nat} (hM : MR σ) (hc : MC σ c) (hn : MN σ n) (hw : WC c) (h20 : n 20 < 2 ^ 31) (h1 : 1 ≤ j) (h2 : j ≤ 60) (hr : ¬ rfN c n = nI 0) : Cq 168 [(.ref (118 : Nat)), .int (nI j)] σ Q = Q (some (.int (rfN c n))) σ := by
  refine Cq_of (Er_of ?_)
  show Wq none 168 0 [some (.ref (118 : Nat)), some (.int (nI j)), none, none] [] _ _
  simp only [w168_0, w168_1, w168_2, w168_5, w168_6, w168_7, w168_10, w168_11, w168_12, w168_13, w168_16, w168_17, w168_19, w168_20, w168_23, w168_24, w168_27, w168_30, w168_33, w168_34, w168_37, w168_39, w168_40, ks_118, c_refuses hM hc hn hw h20 h1 h2, hr, ↓reduceIte, Option.toList_some, Option.toList_none, List.cons_append, List.nil_append, and_self]
theorem c_mNight {σ : dm_G} {c n : Nat → Nat} {j u : Nat} (hM : MR σ) (hc : MC σ c) (hn : MN σ n) (hw : WC c) (h20 : n 20 < 2 ^ 31) (h1 : 1 ≤ j) (h2 : j ≤ 60) (hu : σ 118 4 = .int (nI u)) (h16 : u ≤ 16) (hr : rfN c n = nI 0) : Cq 168 [(.ref (118 : Nat)), .int (nI j)] σ Q = Q (some (.int (nI (n 20 + j)))) (ngF (rmF σ u) n j) := by
  refine Cq_of (Er_of ?_)
  show Wq none 168 0 [some (.ref (118 : Nat)), some (.int (nI j)), none, none] [] _ _
  have h4 := l_mNight (Q := fun r' σ2 => r' = some (.int (nI (n 20 + j))) ∧ σ2 = ngF (rmF σ u) n j) (v := some (.int (nI 0))) (show j < 2 ^ 31 by omega) j 0 (rmF σ u) n (by omega) (rmF_MR hM) (rmF_MN hn)
  have h5 := c_remember (Q := fun r σ3 => Wq none 168 16 [some (.ref (118 : Nat)), some (.int (nI j)), some (.int (nI 0)), none] (r.toList ++ []) σ3 (fun r' σ2 => r' = some (.int (nI (n 20 + j))) ∧ σ2 = ngF (rmF σ u) n j)) hM hu h16
  simp only [w168_0, w168_1, w168_2, w168_5, w168_6, w168_7, w168_10, w168_11, w168_12, w168_13, w168_17, w168_19, w168_20, w168_23, w168_24, w168_27, w168_30, w168_33, w168_34, w168_37, w168_39, w168_40, ks_118, c_refuses hM hc hn hw h20 h1 h2, hr, ↓reduceIte, Option.toList_some, Option.toList_none, List.cons_append, List.nil_append]
  simp only [↓reduceIte, Option.toList_some, Option.toList_none, List.cons_append, List.nil_append] at h5
  rw [h5]
  show Wq none 168 16 [some (.ref (118 : Nat)), some (.int (nI j)), some (.int (nI 0)), none] [] (rmF σ u) _
  simp only [w168_0, w168_1, w168_2, w168_5, w168_6, w168_7, w168_10, w168_11, w168_12, w168_13, w168_16, w168_17, w168_19, w168_20, w168_23, w168_24, w168_27, w168_30, w168_33, w168_34, w168_37, w168_39, w168_40, h4, and_self]
end NG
