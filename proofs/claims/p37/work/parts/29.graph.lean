/-! streets: both roads measure the same (no machine here) -/
def Tn (c : Nat → Nat) (a t : Nat) : Nat := c (13 + (3 * a + t))
/-- from a one can be led to b by k streets -/
def Wk (c : Nat → Nat) (o : Nat) : Nat → Nat → Nat → Prop := fun k => match k with
  | 0 => fun a b => a = b
  | k + 1 => fun a b => ∃ t, t < 3 ∧ o.testBit (Tn c a t) = true ∧ Wk c o k (Tn c a t) b
theorem tb_shl1 (a b : Nat) : (1 <<< a).testBit b = decide (a = b) := by
  rw [Nat.one_shiftLeft, Nat.testBit_two_pow]
theorem nxs_tb {c : Nat → Nat} {x y : Nat} : (nxs c x).testBit y = true ↔ ∃ t, t < 3 ∧ Tn c x t = y := by
  unfold nxs Tn
  rw [Nat.testBit_or, Nat.testBit_or, tb_shl1, tb_shl1, tb_shl1]
  simp only [Bool.or_eq_true, decide_eq_true_eq]
  constructor
  · rintro ((h | h) | h)
    · exact ⟨0, by omega, by simpa using h⟩
    · exact ⟨1, by omega, h⟩
    · exact ⟨2, by omega, h⟩
  · rintro ⟨t, ht, h⟩
    rcases (by omega : t = 0 ∨ t = 1 ∨ t = 2) with rfl | rfl | rfl
    · exact Or.inl (Or.inl (by simpa using h))
    · exact Or.inl (Or.inr h)
    · exact Or.inr h
theorem ledN_tb {c : Nat → Nat} {s y : Nat} : ∀ x, (ledN c s x).testBit y = true ↔ ∃ z, z < x ∧ s.testBit z = true ∧ ∃ t, t < 3 ∧ Tn c z t = y := by
  intro x
  induction x with
  | zero => simp [ledN]
  | succ x ih =>
    rw [ledN]
    by_cases hb : s.testBit x = true
    · rw [if_pos hb, Nat.testBit_or, Bool.or_eq_true, ih, nxs_tb]
      constructor
      · rintro (⟨z, h1, h2⟩ | h)
        · exact ⟨z, by omega, h2⟩
        · exact ⟨x, by omega, hb, h⟩
      · rintro ⟨z, h1, h2, h3⟩
        rcases Nat.lt_or_ge z x with h | h
        · exact Or.inl ⟨z, h, h2, h3⟩
        · obtain rfl : z = x := by omega
          exact Or.inr h3
    · rw [if_neg hb, ih]
      constructor
      · rintro ⟨z, h1, h2⟩
        exact ⟨z, by omega, h2⟩
      · rintro ⟨z, h1, h2, h3⟩
        rcases Nat.lt_or_ge z x with h | h
        · exact ⟨z, h, h2, h3⟩
        · obtain rfl : z = x := by omega
          exact absurd h2 hb
section GR
variable {c : Nat → Nat} {o : Nat}
theorem Tn_lt (hw : WC c) {a t : Nat} (ha : a < c 0) (ht : t < 3) : Tn c a t < c 0 := hw.2.2.2.2.2.1 _ (by omega)
theorem Wk_lt (hw : WC c) : ∀ (k a b : Nat), a < c 0 → Wk c o k a b → b < c 0 := by
  intro k
  induction k with
  | zero => intro a b ha h; have h : a = b := h; omega
  | succ k ih =>
    rintro a b ha ⟨t, ht, -, h⟩
    exact ih _ _ (Tn_lt hw ha ht) h
theorem Wk_snoc : ∀ (k a b : Nat), Wk c o (k + 1) a b ↔ ∃ z, Wk c o k a z ∧ ∃ t, t < 3 ∧ Tn c z t = b ∧ o.testBit b = true := by
  intro k
  induction k with
  | zero =>
    intro a b
    constructor
    · rintro ⟨t, ht, h1, h2⟩
      have h2 : Tn c a t = b := h2
      exact ⟨a, rfl, t, ht, h2, by rw [← h2]; exact h1⟩
    · rintro ⟨z, hz, t, ht, h1, h2⟩
      have hz : a = z := hz
      subst hz
      exact ⟨t, ht, by rw [h1]; exact h2, h1⟩
  | succ k ih =>
    intro a b
    constructor
    · rintro ⟨t, ht, h1, h2⟩
      obtain ⟨z, h3, h4⟩ := (ih _ _).mp h2
      exact ⟨z, ⟨t, ht, h1, h3⟩, h4⟩
    · rintro ⟨z, ⟨t, ht, h1, h2⟩, h3⟩
      exact ⟨t, ht, h1, (ih _ _).mpr ⟨z, h2, h3⟩⟩
theorem sN_tb (hw : WC c) {a : Nat} (ha : a < c 0) : ∀ k b, (sN c a o k).testBit b = true ↔ ∃ j, j ≤ k ∧ Wk c o j a b := by
  intro k
  induction k with
  | zero =>
    intro b
    rw [sN, tb_shl1, decide_eq_true_eq]
    constructor
    · intro h; exact ⟨0, Nat.le_refl _, h⟩
    · rintro ⟨j, hj, h⟩
      obtain rfl : j = 0 := by omega
      exact h
  | succ k ih =>
    intro b
    rw [sN, Nat.testBit_or, Bool.or_eq_true, Nat.testBit_and, Bool.and_eq_true, ih, ledN_tb]
    constructor
    · rintro (⟨j, h1, h2⟩ | ⟨⟨z, h1, h2, t, h3, h4⟩, h5⟩)
      · exact ⟨j, by omega, h2⟩
      · obtain ⟨j, h6, h7⟩ := (ih z).mp h2
        exact ⟨j + 1, by omega, (Wk_snoc _ _ _).mpr ⟨z, h7, t, h3, h4, h5⟩⟩
    · rintro ⟨j, h1, h2⟩
      rcases Nat.lt_or_ge k j with h | h
      · obtain rfl : j = k + 1 := by omega
        obtain ⟨z, h3, t, h4, h5, h6⟩ := (Wk_snoc _ _ _).mp h2
        exact Or.inr ⟨⟨z, Wk_lt hw _ _ _ ha h3, (ih z).mpr ⟨k, Nat.le_refl _, h3⟩, t, h4, h5⟩, h6⟩
      · exact Or.inl ⟨j, h, h2⟩
/-- how many members below N -/
def cnt (s : Nat) : Nat → Nat := fun N => match N with
  | 0 => 0
  | N + 1 => cnt s N + if s.testBit N = true then 1 else 0
theorem cnt_le (s N : Nat) : cnt s N ≤ N := by
  induction N with
  | zero => exact Nat.le_refl _
  | succ N ih => rw [cnt]; split <;> omega
theorem cnt_mono {s s' : Nat} (h : ∀ i, s.testBit i = true → s'.testBit i = true) (N : Nat) : cnt s N ≤ cnt s' N := by
  induction N with
  | zero => exact Nat.le_refl _
  | succ N ih =>
    rw [cnt, cnt]
    by_cases h1 : s.testBit N = true
    · rw [if_pos h1, if_pos (h N h1)]; omega
    · rw [if_neg h1]; split <;> omega
theorem cnt_lt {s s' : Nat} (h : ∀ i, s.testBit i = true → s'.testBit i = true) : ∀ N, (∃ i, i < N ∧ s'.testBit i = true ∧ ¬ s.testBit i = true) → cnt s N < cnt s' N := by
  intro N
  induction N with
  | zero => rintro ⟨i, h1, -⟩; omega
  | succ N ih =>
    rintro ⟨i, h1, h2, h3⟩
    rw [cnt, cnt]
    rcases Nat.lt_or_ge i N with h4 | h4
    · have h5 := ih ⟨i, h4, h2, h3⟩
      by_cases h6 : s.testBit N = true
      · rw [if_pos h6, if_pos (h N h6)]; omega
      · rw [if_neg h6]; split <;> omega
    · obtain rfl : i = N := by omega
      rw [if_neg h3, if_pos h2]
      have := cnt_mono h i
      omega
theorem sN_sub (a k i : Nat) : (sN c a o k).testBit i = true → (sN c a o (k + 1)).testBit i = true := by
  intro h
  rw [sN, Nat.testBit_or, h, Bool.true_or]
theorem sN_stable (hw : WC c) {a : Nat} (ha : a < c 0) : ∃ k, k < c 0 ∧ sN c a o (k + 1) = sN c a o k := by
  by_cases h : ∃ k, k < c 0 ∧ sN c a o (k + 1) = sN c a o k
  · exact h
  · exfalso
    have key : ∀ k, k ≤ c 0 → k + 1 ≤ cnt (sN c a o k) (c 0) := by
      intro k
      induction k with
      | zero =>
        intro _
        have : ∀ N, a < N → 1 ≤ cnt (sN c a o 0) N := by
          intro N
          induction N with
          | zero => intro h; omega
          | succ N ih =>
            intro h
            rw [cnt]
            rcases Nat.lt_or_ge a N with h1 | h1
            · have := ih h1; omega
            · obtain rfl : a = N := by omega
              rw [if_pos (by rw [sN, tb_shl1]; simp)]
              omega
        exact this (c 0) ha
      | succ k ih =>
        intro hk
        have h1 := ih (by omega)
        have h2 : sN c a o (k + 1) ≠ sN c a o k := fun z => h ⟨k, by omega, z⟩
        have h3 : ∃ i, i < c 0 ∧ (sN c a o (k + 1)).testBit i = true ∧ ¬ (sN c a o k).testBit i = true := by
          by_cases h4 : ∃ i, i < c 0 ∧ (sN c a o (k + 1)).testBit i = true ∧ ¬ (sN c a o k).testBit i = true
          · exact h4
          · exfalso
            apply h2
            apply Nat.eq_of_testBit_eq
            intro i
            rcases Nat.lt_or_ge i (c 0) with hi | hi
            · cases h5 : (sN c a o k).testBit i with
              | true => exact sN_sub a k i h5
              | false =>
                cases h6 : (sN c a o (k + 1)).testBit i with
                | false => rfl
                | true => exact absurd ⟨i, hi, h6, by rw [h5]; decide⟩ h4
            · rw [tb_lt (sN_lt hw o ha _) hi, tb_lt (sN_lt hw o ha _) hi]
        have := cnt_lt (sN_sub a k) (c 0) h3
        omega
    have h1 := key (c 0) (Nat.le_refl _)
    have h2 := cnt_le (sN c a o (c 0)) (c 0)
    omega
theorem sN_const {a k : Nat} (h : sN c a o (k + 1) = sN c a o k) : ∀ j, k ≤ j → sN c a o j = sN c a o k := by
  intro j
  induction j with
  | zero =>
    intro hj
    obtain rfl : k = 0 := by omega
    rfl
  | succ j ih =>
    intro hj
    rcases Nat.lt_or_ge j k with h1 | h1
    · obtain rfl : k = j + 1 := by omega
      rfl
    · have h2 := ih h1
      rw [sN, h2]
      exact h
/-- what is reached at all is reached soon -/
theorem sN_all (hw : WC c) {a b m : Nat} (ha : a < c 0) (h : (sN c a o m).testBit b = true) : (sN c a o (c 0 - 1)).testBit b = true := by
  obtain ⟨k, hk, he⟩ := sN_stable (o := o) hw ha
  have h1 := sN_const he (c 0 - 1) (by omega)
  rcases Nat.lt_or_ge m k with h2 | h2
  · obtain ⟨j, h3, h4⟩ := (sN_tb hw ha m b).mp h
    exact (sN_tb hw ha _ b).mpr ⟨j, by omega, h4⟩
  · rw [sN_const he m h2] at h
    rw [h1]
    exact h
theorem fnd_ex {p : Nat → Bool} : ∀ (n k i : Nat), k ≤ i → i < k + n → p i = true → ∃ j, fnd p n k = some j := by
  intro n k i h1 h2 h3
  cases h : fnd p n k with
  | some j => exact ⟨j, rfl⟩
  | none =>
    rw [fnd_none n k h i h1 h2] at h3
    cases h3
theorem sb_some (hw : WC c) {a b d : Nat} (ha : a < c 0) (h : sbN c a b o = some d) : Wk c o d a b ∧ ∀ j, Wk c o j a b → d ≤ j := by
  have h1 := fnd_some _ _ _ h
  have h2 := fnd_first _ _ _ h
  have h3 : ∀ j, Wk c o j a b → d ≤ j := by
    intro j hj
    rcases Nat.lt_or_ge j d with h4 | h4
    · have this : (sN c a o j).testBit b = false := h2 j (Nat.zero_le _) h4
      rw [(sN_tb hw ha j b).mpr ⟨j, Nat.le_refl _, hj⟩] at this
      cases this
    · exact h4
  obtain ⟨j, h5, h6⟩ := (sN_tb hw ha d b).mp h1.2.2
  have := h3 j h6
  obtain rfl : j = d := by omega
  exact ⟨h6, h3⟩
theorem sb_none (hw : WC c) {a b : Nat} (ha : a < c 0) (h : sbN c a b o = none) (j : Nat) : ¬ Wk c o j a b := by
  intro hj
  have h1 := sN_all hw ha ((sN_tb hw ha j b).mpr ⟨j, Nat.le_refl _, hj⟩)
  have h2 : (sN c a o (c 0 - 1)).testBit b = false := fnd_none _ _ h (c 0 - 1) (Nat.zero_le _) (by omega)
  rw [h1] at h2
  cases h2
-- the reference's measure
def Snd (c : Nat → Nat) (o e : Nat) (aw : Nat → Nat) : Prop := ∀ y, aw y < FAR → Wk c o (aw y) y e
def Cmp (c : Nat → Nat) (o e r : Nat) (aw : Nat → Nat) : Prop := ∀ y, y < c 0 → ∀ j, j ≤ r → Wk c o j y e → aw y ≤ j
theorem rlK_dec {x : Nat} {aw : Nat → Nat} : ∀ k y, rlK c o x aw k y ≤ aw y := by
  intro k
  induction k with
  | zero => intro y; exact Nat.le_refl _
  | succ k ih =>
    intro y
    rw [rlK]
    show (if y = x then _ else _) ≤ _
    split
    · next h => rw [h]; exact Nat.le_trans (Nat.min_le_left _ _) (ih x)
    · exact ih y
theorem rlX_dec {aw : Nat → Nat} : ∀ x y, rlX c o aw x y ≤ aw y := by
  intro x
  induction x with
  | zero => intro y; exact Nat.le_refl _
  | succ x ih => intro y; exact Nat.le_trans (rlK_dec 3 y) (ih y)
theorem bt_snd {e x k : Nat} {aw : Nat → Nat} (hk : k < 3) (h : Snd c o e aw) (hb : btN c aw o x k < FAR) : Wk c o (btN c aw o x k) x e := by
  unfold btN at hb ⊢
  split
  · next hc => exact ⟨k, hk, hc.1, h _ hc.2⟩
  · next hc => rw [if_neg hc] at hb; exact absurd hb (Nat.lt_irrefl _)
theorem rlK_snd {e x : Nat} {aw : Nat → Nat} (h : Snd c o e aw) : ∀ k, k ≤ 3 → Snd c o e (rlK c o x aw k) := by
  intro k
  induction k with
  | zero => intro _; exact h
  | succ k ih =>
    intro hk y hy
    have ih := ih (by omega)
    rw [rlK] at hy ⊢
    dsimp only at hy ⊢
    by_cases hyx : y = x
    · rw [if_pos hyx] at hy ⊢
      subst hyx
      rcases Nat.le_total (rlK c o y aw k y) (btN c (rlK c o y aw k) o y k) with h1 | h1
      · rw [Nat.min_eq_left h1] at hy ⊢
        exact ih y hy
      · rw [Nat.min_eq_right h1] at hy ⊢
        exact bt_snd (by omega) ih hy
    · rw [if_neg hyx] at hy ⊢
      exact ih y hy
theorem rlX_snd {e : Nat} {aw : Nat → Nat} (h : Snd c o e aw) : ∀ x, Snd c o e (rlX c o aw x) := by
  intro x
  induction x with
  | zero => exact h
  | succ x ih => exact rlK_snd ih 3 (Nat.le_refl _)
theorem rlR_snd {e : Nat} {aw : Nat → Nat} (h : Snd c o e aw) : ∀ r, Snd c o e (rlR c o aw r) := by
  intro r
  induction r with
  | zero => exact h
  | succ r ih => exact rlX_snd ih _
theorem ini_snd (e : Nat) : Snd c o e (ini e) := by
  intro y hy
  unfold ini at hy ⊢
  split
  · next h => exact h
  · next h => rw [if_neg h] at hy; exact absurd hy (Nat.lt_irrefl _)
theorem rlK_at {e r x : Nat} {aw : Nat → Nat} (hr : r < FAR) (hw : WC c) (hx : x < c 0) (h : ∀ y, y < c 0 → ∀ j, j ≤ r → Wk c o j y e → aw y ≤ j) : ∀ k, k ≤ 3 → ∀ t, t < k → o.testBit (Tn c x t) = true → Wk c o r (Tn c x t) e → rlK c o x aw k x ≤ r + 1 := by
  intro k
  induction k with
  | zero => intro _ t ht; omega
  | succ k ih =>
    intro hk t ht h1 h2
    rw [rlK]
    dsimp only
    rw [if_pos rfl]
    rcases Nat.lt_or_ge t k with h3 | h3
    · exact Nat.le_trans (Nat.min_le_left _ _) (ih (by omega) t h3 h1 h2)
    · obtain rfl : t = k := by omega
      refine Nat.le_trans (Nat.min_le_right _ _) ?_
      have h4 : rlK c o x aw t (Tn c x t) ≤ r := Nat.le_trans (rlK_dec _ _) (h _ (Tn_lt hw hx (by omega)) r (Nat.le_refl _) h2)
      unfold btN
      have h5 : o.testBit (c (13 + (3 * x + t))) = true ∧ rlK c o x aw t (c (13 + (3 * x + t))) < FAR := ⟨h1, Nat.lt_of_le_of_lt h4 hr⟩
      rw [if_pos h5]
      exact Nat.succ_le_succ h4
theorem rlX_cmp {e r : Nat} {aw : Nat → Nat} (hr : r < FAR) (hw : WC c) (h : Cmp c o e r aw) : ∀ x, x ≤ c 0 → ∀ y, y < x → ∀ j, j ≤ r + 1 → Wk c o j y e → rlX c o aw x y ≤ j := by
  intro x
  induction x with
  | zero => intro _ y hy; omega
  | succ x ih =>
    intro hx y hy j hj hW
    rw [rlX]
    rcases Nat.lt_or_ge y x with h1 | h1
    · exact Nat.le_trans (rlK_dec _ _) (ih (by omega) y h1 j hj hW)
    · obtain rfl : y = x := by omega
      rcases Nat.lt_or_ge r j with h2 | h2
      · obtain rfl : j = r + 1 := by omega
        obtain ⟨t, h3, h4, h5⟩ := hW
        exact rlK_at hr hw (by omega) (fun z hz i hi hq => Nat.le_trans (rlX_dec _ _) (h z hz i hi hq)) 3 (Nat.le_refl _) t h3 h4 h5
      · exact Nat.le_trans (rlK_dec _ _) (Nat.le_trans (rlX_dec _ _) (h y (by omega) j h2 hW))
theorem rlR_cmp {e : Nat} (hw : WC c) (he : e < c 0) : ∀ r, r ≤ c 0 → Cmp c o e r (rlR c o (ini e) r) := by
  intro r
  induction r with
  | zero =>
    intro _ y hy j hj hW
    obtain rfl : j = 0 := by omega
    have hW : y = e := hW
    show ini e y ≤ 0
    unfold ini
    rw [if_pos hW]
    exact Nat.le_refl _
  | succ r ih =>
    intro hr y hy j hj hW
    have h0 := hw.1
    exact rlX_cmp (by unfold FAR; omega) hw (ih (by omega)) (c 0) (Nat.le_refl _) y hy j hj hW
/-- the reference's length is the class's -/
theorem lay_sb (hw : WC c) {a b : Nat} (ha : a < c 0) (hb : b < c 0) : lay c o b a = match sbN c a b o with
    | some d => d
    | none => FAR := by
  have hs := rlR_snd (c := c) (o := o) (ini_snd b) (c 0) a
  have hc := rlR_cmp (o := o) hw hb (c 0) (Nat.le_refl _) a ha
  have hF : ∀ d, d ≤ 8 → d < FAR := fun d h => by unfold FAR; omega
  have h0 := hw.1
  cases h : sbN c a b o with
  | some d =>
    dsimp only
    have h1 := sb_some hw ha h
    have h2 := sbN_lt h
    have h3 : lay c o b a ≤ d := hc d (by omega) h1.1
    have h4 := h1.2 _ (hs (Nat.lt_of_le_of_lt h3 (hF d (by omega))))
    exact Nat.le_antisymm h3 h4
  | none =>
    dsimp only
    rcases Nat.lt_or_ge (lay c o b a) FAR with h1 | h1
    · exact absurd (hs h1) (sb_none hw ha h _)
    · exact Nat.le_antisymm (lay_le c o b a) h1
theorem lay_far (hw : WC c) {a b : Nat} (ha : a < c 0) (hb : b < c 0) : lay c o b a < FAR ↔ (sbN c a b o).isSome = true := by
  rw [lay_sb hw ha hb]
  cases h : sbN c a b o with
  | some d =>
    have h0 := hw.1
    have := sbN_lt h
    exact ⟨fun _ => rfl, fun _ => by dsimp only; unfold FAR; omega⟩
  | none => exact ⟨fun z => absurd z (Nat.lt_irrefl _), fun z => by cases z⟩
end GR
