/-! reach, first turn, ring: both roads agree (no machine here) -/
section GR2
variable {c : Nat → Nat} {o : Nat}
-- reach: the reference's set grows in place
def rcK (c : Nat → Nat) (o x : Nat) (s : Nat) : Nat → Nat := fun k => match k with
  | 0 => s
  | k + 1 => if (rcK c o x s k).testBit x = true ∧ o.testBit (Tn c x k) = true then rcK c o x s k ||| 1 <<< Tn c x k else rcK c o x s k
def rcX (c : Nat → Nat) (o : Nat) (s : Nat) : Nat → Nat := fun x => match x with
  | 0 => s
  | x + 1 => rcK c o x (rcX c o s x) 3
def rcR (c : Nat → Nat) (o : Nat) (s : Nat) : Nat → Nat := fun r => match r with
  | 0 => s
  | r + 1 => rcX c o (rcR c o s r) (c 0)
def RSnd (c : Nat → Nat) (o a s : Nat) : Prop := ∀ y, s.testBit y = true → ∃ j, Wk c o j a y
theorem rcK_inc {x s y : Nat} : ∀ k, s.testBit y = true → (rcK c o x s k).testBit y = true := by
  intro k
  induction k with
  | zero => exact fun h => h
  | succ k ih =>
    intro h
    rw [rcK]
    split
    · rw [Nat.testBit_or, ih h, Bool.true_or]
    · exact ih h
theorem rcX_inc {s y : Nat} : ∀ x, s.testBit y = true → (rcX c o s x).testBit y = true := by
  intro x
  induction x with
  | zero => exact fun h => h
  | succ x ih => exact fun h => rcK_inc 3 (ih h)
theorem rcK_snd {a x s : Nat} (h : RSnd c o a s) : ∀ k, k ≤ 3 → RSnd c o a (rcK c o x s k) := by
  intro k
  induction k with
  | zero => intro _; exact h
  | succ k ih =>
    intro hk y hy
    rw [rcK] at hy
    split at hy
    · next hc =>
      rw [Nat.testBit_or, Bool.or_eq_true, tb_shl1, decide_eq_true_eq] at hy
      rcases hy with hy | hy
      · exact ih (by omega) y hy
      · obtain ⟨j, hj⟩ := ih (by omega) x hc.1
        exact ⟨j + 1, (Wk_snoc _ _ _).mpr ⟨x, hj, k, by omega, hy, by rw [← hy]; exact hc.2⟩⟩
    · exact ih (by omega) y hy
theorem rcX_snd {a s : Nat} (h : RSnd c o a s) : ∀ x, RSnd c o a (rcX c o s x) := by
  intro x
  induction x with
  | zero => exact h
  | succ x ih => exact rcK_snd ih 3 (Nat.le_refl _)
theorem rcR_snd {a s : Nat} (h : RSnd c o a s) : ∀ r, RSnd c o a (rcR c o s r) := by
  intro r
  induction r with
  | zero => exact h
  | succ r ih => exact rcX_snd ih _
theorem rcK_get {x s t : Nat} : ∀ k, t < k → s.testBit x = true → o.testBit (Tn c x t) = true → (rcK c o x s k).testBit (Tn c x t) = true := by
  intro k
  induction k with
  | zero => intro h; omega
  | succ k ih =>
    intro ht hs ho
    rcases Nat.lt_or_ge t k with h | h
    · have h1 := ih h hs ho
      rw [rcK]
      split
      · rw [Nat.testBit_or, h1, Bool.true_or]
      · exact h1
    · obtain rfl : t = k := by omega
      rw [rcK, if_pos ⟨rcK_inc t hs, ho⟩, Nat.testBit_or, tb_shl1]
      simp
theorem rcX_get {s t z : Nat} (ht : t < 3) : ∀ x, z < x → s.testBit z = true → o.testBit (Tn c z t) = true → (rcX c o s x).testBit (Tn c z t) = true := by
  intro x
  induction x with
  | zero => intro h; omega
  | succ x ih =>
    intro hz hs ho
    rcases Nat.lt_or_ge z x with h | h
    · exact rcK_inc 3 (ih h hs ho)
    · obtain rfl : z = x := by omega
      exact rcK_get 3 ht (rcX_inc _ hs) ho
theorem rcR_cmp (hw : WC c) {a : Nat} (ha : a < c 0) : ∀ r j y, j ≤ r → Wk c o j a y → (rcR c o (1 <<< a) r).testBit y = true := by
  intro r
  induction r with
  | zero =>
    intro j y hj h
    obtain rfl : j = 0 := by omega
    have h : a = y := h
    rw [rcR, tb_shl1, decide_eq_true_eq]
    exact h
  | succ r ih =>
    intro j y hj h
    rw [rcR]
    rcases Nat.lt_or_ge r j with h1 | h1
    · obtain rfl : j = r + 1 := by omega
      obtain ⟨z, h2, t, h3, h4, h5⟩ := (Wk_snoc _ _ _).mp h
      rw [← h4]
      exact rcX_get h3 (c 0) (Wk_lt hw _ _ _ ha h2) (ih r z (Nat.le_refl _) h2) (by rw [h4]; exact h5)
    · exact rcX_inc _ (ih j y h1 h)
theorem rcK_lt (hw : WC c) {x s : Nat} (hx : x < c 0) (h : s < 2 ^ c 0) : ∀ k, k ≤ 3 → rcK c o x s k < 2 ^ c 0 := by
  intro k
  induction k with
  | zero => intro _; exact h
  | succ k ih =>
    intro hk
    rw [rcK]
    split
    · exact or_lt (ih (by omega)) (one_shl (Tn_lt hw hx (by omega)))
    · exact ih (by omega)
theorem rcX_lt (hw : WC c) {s : Nat} (h : s < 2 ^ c 0) : ∀ x, x ≤ c 0 → rcX c o s x < 2 ^ c 0 := by
  intro x
  induction x with
  | zero => intro _; exact h
  | succ x ih => intro hx; exact rcK_lt hw (by omega) (ih (by omega)) 3 (Nat.le_refl _)
theorem rcR_lt (hw : WC c) {s : Nat} (h : s < 2 ^ c 0) : ∀ r, rcR c o s r < 2 ^ c 0 := by
  intro r
  induction r with
  | zero => exact h
  | succ r ih => exact rcX_lt hw ih _ (Nat.le_refl _)
theorem reach_eq (hw : WC c) {a : Nat} (ha : a < c 0) : rcR c o (1 <<< a) 8 = sN c a o (c 0) := by
  apply Nat.eq_of_testBit_eq
  intro y
  have h0 := hw.1
  cases h : (sN c a o (c 0)).testBit y with
  | true =>
    obtain ⟨j, h1, h2⟩ := (sN_tb hw ha _ _).mp h
    exact rcR_cmp hw ha 8 j y (by omega) h2
  | false =>
    cases h3 : (rcR c o (1 <<< a) 8).testBit y with
    | false => rfl
    | true =>
      obtain ⟨j, h4⟩ := rcR_snd (o := o) (fun z hz => ⟨0, by rw [tb_shl1, decide_eq_true_eq] at hz; exact hz⟩ : RSnd c o a (1 <<< a)) 8 y h3
      have h5 := sN_all hw ha ((sN_tb hw ha j y).mpr ⟨j, Nat.le_refl _, h4⟩)
      obtain ⟨i, h6, h7⟩ := (sN_tb hw ha _ y).mp h5
      rw [(sN_tb hw ha (c 0) y).mpr ⟨i, by omega, h7⟩] at h
      cases h
-- first turn
theorem bt_eq (hw : WC c) {a b d t : Nat} (ha : a < c 0) (hb : b < c 0) (ht : t < 3) (hd : d < 8) : btN c (lay c o b) o a t = d + 1 ↔ ftP c a b o d t = true := by
  have hT := Tn_lt hw ha ht
  have h0 := hw.1
  have hF : ¬ FAR = d + 1 := by unfold FAR; omega
  have hl := lay_sb (o := o) hw hT hb
  unfold btN ftP
  rw [Bool.and_eq_true, decide_eq_true_eq]
  show (if o.testBit (Tn c a t) = true ∧ lay c o b (Tn c a t) < FAR then lay c o b (Tn c a t) + 1 else FAR) = d + 1 ↔ o.testBit (Tn c a t) = true ∧ sbN c (Tn c a t) b o = some d
  rw [hl]
  cases h : sbN c (Tn c a t) b o with
  | none =>
    dsimp only
    rw [if_neg (fun z => absurd z.2 (Nat.lt_irrefl _))]
    exact ⟨fun z => absurd z hF, fun z => by cases z.2⟩
  | some k =>
    have hk := sbN_lt h
    dsimp only
    by_cases ho : o.testBit (Tn c a t) = true
    · rw [if_pos ⟨ho, by unfold FAR; omega⟩]
      constructor
      · intro z; exact ⟨ho, by congr 1; omega⟩
      · intro z; cases z.2; rfl
    · rw [if_neg (fun z => ho z.1)]
      exact ⟨fun z => absurd z hF, fun z => absurd z.1 ho⟩
theorem sb_step (hw : WC c) {a b d : Nat} (ha : a < c 0) (h : sbN c a b o = some (d + 1)) : ∃ t, t < 3 ∧ ftP c a b o d t = true := by
  obtain ⟨⟨t, h1, h2, h3⟩, h4⟩ := sb_some hw ha h
  have hT := Tn_lt hw ha h1
  refine ⟨t, h1, ?_⟩
  unfold ftP
  rw [Bool.and_eq_true, decide_eq_true_eq]
  refine ⟨h2, ?_⟩
  show sbN c (Tn c a t) b o = some d
  cases h5 : sbN c (Tn c a t) b o with
  | none => exact absurd h3 (sb_none hw hT h5 d)
  | some k =>
    have h6 := sb_some hw hT h5
    have h7 := h6.2 d h3
    have h8 := h4 (k + 1) ⟨t, h1, h2, h6.1⟩
    congr 1
    omega
-- ring
theorem bN_tb (hw : WC c) {a : Nat} (ha : a < c 0) : ∀ k b, (bN c a o k).testBit b = true ↔ ∃ j, 1 ≤ j ∧ j ≤ k + 1 ∧ Wk c o j a b := by
  intro k
  have led1 : ∀ b, (ledN c (1 <<< a) (c 0) &&& o).testBit b = true ↔ Wk c o 1 a b := by
    intro b
    rw [Nat.testBit_and, Bool.and_eq_true, ledN_tb, Wk_snoc]
    constructor
    · rintro ⟨⟨z, h1, h2, t, h3, h4⟩, h5⟩
      rw [tb_shl1, decide_eq_true_eq] at h2
      exact ⟨z, h2, t, h3, h4, h5⟩
    · rintro ⟨z, h1, t, h3, h4, h5⟩
      have h1 : a = z := h1
      subst h1
      exact ⟨⟨a, ha, by rw [tb_shl1]; simp, t, h3, h4⟩, h5⟩
  induction k with
  | zero =>
    intro b
    rw [bN, led1]
    constructor
    · intro h; exact ⟨1, by omega, by omega, h⟩
    · rintro ⟨j, h1, h2, h3⟩
      obtain rfl : j = 1 := by omega
      exact h3
  | succ k ih =>
    intro b
    rw [bN, Nat.testBit_or, Bool.or_eq_true, ih, Nat.testBit_and, Bool.and_eq_true, ledN_tb]
    constructor
    · rintro (⟨j, h1, h2, h3⟩ | ⟨⟨z, h1, h2, t, h3, h4⟩, h5⟩)
      · exact ⟨j, h1, by omega, h3⟩
      · obtain ⟨j, h6, h7, h8⟩ := (ih z).mp h2
        exact ⟨j + 1, by omega, by omega, (Wk_snoc _ _ _).mpr ⟨z, h8, t, h3, h4, h5⟩⟩
    · rintro ⟨j, h1, h2, h3⟩
      rcases Nat.lt_or_ge (k + 1) j with h | h
      · obtain ⟨j, rfl⟩ : ∃ i, j = i + 1 := ⟨j - 1, by omega⟩
        obtain ⟨z, h4, t, h5, h6, h7⟩ := (Wk_snoc _ _ _).mp h3
        exact Or.inr ⟨⟨z, Wk_lt hw _ _ _ ha h4, (ih z).mpr ⟨j, by omega, by omega, h4⟩, t, h5, h6⟩, h7⟩
      · exact Or.inl ⟨j, h1, h, h3⟩
def rgM (c : Nat → Nat) (o a : Nat) : Nat := min (min (min FAR (btN c (lay c o a) o a 0)) (btN c (lay c o a) o a 1)) (btN c (lay c o a) o a 2)
theorem bt_le (hw : WC c) {a b t j : Nat} (ha : a < c 0) (hb : b < c 0) (ht : t < 3) (ho : o.testBit (Tn c a t) = true) (h : Wk c o j (Tn c a t) b) : btN c (lay c o b) o a t ≤ j + 1 := by
  have hT := Tn_lt hw ha ht
  have h0 := hw.1
  have hl := lay_sb (o := o) hw hT hb
  unfold btN
  show (if o.testBit (Tn c a t) = true ∧ lay c o b (Tn c a t) < FAR then lay c o b (Tn c a t) + 1 else FAR) ≤ j + 1
  rw [hl]
  cases h1 : sbN c (Tn c a t) b o with
  | none => exact absurd h (sb_none hw hT h1 j)
  | some k =>
    have hk := sbN_lt h1
    dsimp only
    rw [if_pos ⟨ho, by unfold FAR; omega⟩]
    have := (sb_some hw hT h1).2 j h
    omega
theorem bt_wk (hw : WC c) {a b t : Nat} (ha : a < c 0) (hb : b < c 0) (ht : t < 3) (h : btN c (lay c o b) o a t < FAR) : Wk c o (btN c (lay c o b) o a t) a b ∧ 1 ≤ btN c (lay c o b) o a t ∧ btN c (lay c o b) o a t ≤ c 0 := by
  have hT := Tn_lt hw ha ht
  have hl := lay_sb (o := o) hw hT hb
  refine ⟨bt_snd ht (rlR_snd (ini_snd b) (c 0)) h, ?_⟩
  have e : btN c (lay c o b) o a t = if o.testBit (Tn c a t) = true ∧ lay c o b (Tn c a t) < FAR then lay c o b (Tn c a t) + 1 else FAR := rfl
  rw [e] at h ⊢
  by_cases hc : o.testBit (Tn c a t) = true ∧ lay c o b (Tn c a t) < FAR
  · rw [if_pos hc]
    refine ⟨by omega, ?_⟩
    rw [hl]
    cases h1 : sbN c (Tn c a t) b o with
    | none => rw [hl, h1] at hc; exact absurd hc.2 (Nat.lt_irrefl _)
    | some k => have := sbN_lt h1; dsimp only; omega
  · rw [if_neg hc] at h
    exact absurd h (Nat.lt_irrefl _)
theorem rg_eq (hw : WC c) {a : Nat} (ha : a < c 0) : rgM c o a = match rgN c a o with
    | some d => d
    | none => FAR := by
  have hle : rgM c o a ≤ FAR := Nat.le_trans (Nat.min_le_left _ _) (Nat.le_trans (Nat.min_le_left _ _) (Nat.min_le_left _ _))
  have hmin : ∀ t, t < 3 → rgM c o a ≤ btN c (lay c o a) o a t := by
    intro t ht
    rcases (by omega : t = 0 ∨ t = 1 ∨ t = 2) with rfl | rfl | rfl
    · exact Nat.le_trans (Nat.min_le_left _ _) (Nat.le_trans (Nat.min_le_left _ _) (Nat.min_le_right _ _))
    · exact Nat.le_trans (Nat.min_le_left _ _) (Nat.min_le_right _ _)
    · exact Nat.min_le_right _ _
  have hex : rgM c o a < FAR → ∃ t, t < 3 ∧ rgM c o a = btN c (lay c o a) o a t := by
    intro h
    unfold rgM at h ⊢
    rcases Nat.le_total (min (min FAR (btN c (lay c o a) o a 0)) (btN c (lay c o a) o a 1)) (btN c (lay c o a) o a 2) with h1 | h1
    · rw [Nat.min_eq_left h1] at h ⊢
      rcases Nat.le_total (min FAR (btN c (lay c o a) o a 0)) (btN c (lay c o a) o a 1) with h2 | h2
      · rw [Nat.min_eq_left h2] at h ⊢
        rcases Nat.le_total FAR (btN c (lay c o a) o a 0) with h3 | h3
        · rw [Nat.min_eq_left h3] at h; exact absurd h (Nat.lt_irrefl _)
        · rw [Nat.min_eq_right h3]; exact ⟨0, by omega, rfl⟩
      · rw [Nat.min_eq_right h2]; exact ⟨1, by omega, rfl⟩
    · rw [Nat.min_eq_right h1]; exact ⟨2, by omega, rfl⟩
  have hwk : rgM c o a < FAR → Wk c o (rgM c o a) a a ∧ 1 ≤ rgM c o a ∧ rgM c o a ≤ c 0 := by
    intro h
    obtain ⟨t, ht, e⟩ := hex h
    rw [e] at h ⊢
    exact bt_wk hw ha ha ht h
  cases h : rgN c a o with
  | some d =>
    dsimp only
    have h1 := fnd_some _ _ _ h
    have h2 := fnd_first _ _ _ h
    obtain ⟨j, h3, h4, h5⟩ := (bN_tb hw ha (d - 1) a).mp h1.2.2
    have h6 : ∀ i, 1 ≤ i → i ≤ c 0 → Wk c o i a a → d ≤ i := by
      intro i h7 h8 h9
      rcases Nat.lt_or_ge i d with h10 | h10
      · have h11 : (bN c a o (i - 1)).testBit a = false := h2 i h7 h10
        rw [(bN_tb hw ha (i - 1) a).mpr ⟨i, h7, by omega, h9⟩] at h11
        cases h11
      · exact h10
    have h7 := h6 j h3 (by omega) h5
    obtain rfl : j = d := by omega
    obtain ⟨j, rfl⟩ : ∃ i, j = i + 1 := ⟨j - 1, by omega⟩
    obtain ⟨t, ht, ho, h8⟩ := h5
    have h9 := Nat.le_trans (hmin t ht) (bt_le hw ha ha ht ho h8)
    have h0 := hw.1
    have h10 := hwk (Nat.lt_of_le_of_lt h9 (by unfold FAR; omega))
    have h11 := h6 _ h10.2.1 h10.2.2 h10.1
    exact Nat.le_antisymm h9 h11
  | none =>
    dsimp only
    rcases Nat.lt_or_ge (rgM c o a) FAR with h1 | h1
    · obtain ⟨h2, h3, h4⟩ := hwk h1
      have h5 : (bN c a o (rgM c o a - 1)).testBit a = false := fnd_none _ _ h (rgM c o a) h3 (by omega)
      rw [(bN_tb hw ha _ a).mpr ⟨rgM c o a, h3, by omega, h2⟩] at h5
      cases h5
    · omega
end GR2
