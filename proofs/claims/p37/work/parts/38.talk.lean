/-! who must talk: the reference's least set found from below, the class's from above -/
/-- set t is better told than b -/
def tbN (n : Nat → Nat) (m s : Nat) : Option Nat → Option Nat := fun b => if hdN n s m = haN n m ∧ (b = none ∨ ∃ k, b = some k ∧ pcN s < pcN k) then some s else b
def tkN (n : Nat → Nat) (m : Nat) : Nat → Option Nat := fun s => match s with
  | 0 => none
  | s + 1 => tbN n m s (tkN n m s)
theorem tkN_lt {n : Nat → Nat} {m : Nat} : ∀ s k, tkN n m s = some k → k < s := by
  intro s
  induction s with
  | zero => intro k h; cases h
  | succ s ih =>
    intro k h
    rw [tkN, tbN] at h
    split at h
    · cases h; omega
    · have := ih k h; omega
theorem hdN_lt {n : Nat → Nat} {s m : Nat} (h : ∀ g, g < m → n (12 + g) < 256) : hdN n s m < 256 := by
  induction m with
  | zero => exact (by decide : 0 < 256)
  | succ m ih =>
    have i := ih (fun g hg => h g (by omega))
    rw [hdN]
    split
    · exact Nat.or_lt_two_pow (n := 8) i (h m (by omega))
    · exact i
theorem haN_lt {n : Nat → Nat} {m : Nat} (h : ∀ g, g < m → n (12 + g) < 256) : haN n m < 256 := by
  induction m with
  | zero => exact (by decide : 0 < 256)
  | succ m ih =>
    rw [haN]
    exact Nat.or_lt_two_pow (n := 8) (ih (fun g hg => h g (by omega))) (h m (by omega))
theorem pc_le (s : Nat) : pcN s ≤ 8 := by unfold pcN; omega
section TK
variable {σ : dm_G} {c n : Nat → Nat} {Q : Option Value → dm_G → Prop}
end TK
/-- the class's: from above, a set as good as the best so far takes its place -/
def ckN (n : Nat → Nat) (m : Nat) : Nat → Nat := fun k => match k with
  | 0 => 2 ^ m - 1
  | k + 1 => if hdN n (2 ^ m - 1 - k) m = hdN n (2 ^ m - 1) m ∧ pcN (2 ^ m - 1 - k) ≤ pcN (ckN n m k) then 2 ^ m - 1 - k else ckN n m k
theorem hd_full {n : Nat → Nat} {m : Nat} : ∀ g, g ≤ m → hdN n (2 ^ m - 1) g = haN n g := by
  intro g
  induction g with
  | zero => intro _; rfl
  | succ g ih =>
    intro hg
    rw [hdN, haN, ih (by omega), if_pos (by rw [Nat.testBit_two_pow_sub_one]; exact decide_eq_true (by omega))]
theorem tk_best {n : Nat → Nat} {m : Nat} : ∀ s, match tkN n m s with
    | some b => b < s ∧ hdN n b m = haN n m ∧ ∀ t, t < s → hdN n t m = haN n m → pcN b < pcN t ∨ (pcN b = pcN t ∧ b ≤ t)
    | none => ∀ t, t < s → ¬ hdN n t m = haN n m := by
  intro s
  induction s with
  | zero => exact fun t ht => by omega
  | succ s ih =>
    rw [tkN, tbN]
    cases hb : tkN n m s with
    | none =>
      rw [hb] at ih
      dsimp only at ih
      by_cases h : hdN n s m = haN n m
      · rw [if_pos ⟨h, Or.inl rfl⟩]
        refine ⟨by omega, h, fun t ht h2 => ?_⟩
        by_cases e : t = s
        · exact Or.inr ⟨by rw [e], by omega⟩
        · exact absurd h2 (ih t (by omega))
      · rw [if_neg (fun z => h z.1)]
        intro t ht h2
        by_cases e : t = s
        · rw [e] at h2; exact h h2
        · exact ih t (by omega) h2
    | some k =>
      rw [hb] at ih
      dsimp only at ih
      obtain ⟨i1, i2, i3⟩ := ih
      by_cases h : hdN n s m = haN n m ∧ pcN s < pcN k
      · rw [if_pos ⟨h.1, Or.inr ⟨k, rfl, h.2⟩⟩]
        refine ⟨by omega, h.1, fun t ht h2 => ?_⟩
        by_cases e : t = s
        · exact Or.inr ⟨by rw [e], by omega⟩
        · have := i3 t (by omega) h2
          omega
      · rw [if_neg (fun z => h ⟨z.1, by
          rcases z.2 with z | ⟨k', z, z4⟩
          · cases z
          · cases z; exact z4⟩)]
        refine ⟨by omega, i2, fun t ht h2 => ?_⟩
        by_cases e : t = s
        · rw [e] at h2 ⊢
          have : ¬ pcN s < pcN k := fun z => h ⟨h2, z⟩
          omega
        · exact i3 t (by omega) h2
theorem ck_best {n : Nat → Nat} {m : Nat} : ∀ k, k ≤ 2 ^ m → 2 ^ m - k ≤ ckN n m k + (if k = 0 then 1 else 0) ∧ ckN n m k ≤ 2 ^ m - 1 ∧ hdN n (ckN n m k) m = haN n m ∧ ∀ t, t ≤ 2 ^ m - 1 → 2 ^ m - k ≤ t → hdN n t m = haN n m → pcN (ckN n m k) < pcN t ∨ (pcN (ckN n m k) = pcN t ∧ ckN n m k ≤ t) := by
  have hp : 0 < 2 ^ m := Nat.two_pow_pos m
  have hf : hdN n (2 ^ m - 1) m = haN n m := hd_full m (Nat.le_refl _)
  intro k
  induction k with
  | zero =>
    intro _
    refine ⟨?_, Nat.le_refl _, hf, fun t h1 h2 _ => by omega⟩
    rw [if_pos rfl, ckN]
    omega
  | succ k ih =>
    intro hk
    obtain ⟨i0, i1, i2, i3⟩ := ih (by omega)
    have i0' : 2 ^ m - 1 - k ≤ ckN n m k := by
      by_cases e : k = 0
      · rw [if_pos e] at i0; omega
      · rw [if_neg e] at i0; omega
    rw [if_neg (by omega : ¬ k + 1 = 0)]
    by_cases h : hdN n (2 ^ m - 1 - k) m = haN n m ∧ pcN (2 ^ m - 1 - k) ≤ pcN (ckN n m k)
    · have e1 : ckN n m (k + 1) = 2 ^ m - 1 - k := by rw [ckN, hf, if_pos h]
      rw [e1]
      refine ⟨by omega, by omega, h.1, fun t h1 h2 h3 => ?_⟩
      by_cases e : t = 2 ^ m - 1 - k
      · exact Or.inr ⟨by rw [e], by omega⟩
      · have := i3 t h1 (by omega) h3
        omega
    · have e1 : ckN n m (k + 1) = ckN n m k := by rw [ckN, hf, if_neg h]
      rw [e1]
      refine ⟨by omega, i1, i2, fun t h1 h2 h3 => ?_⟩
      by_cases e : t = 2 ^ m - 1 - k
      · rw [e] at h3 ⊢
        have : ¬ pcN (2 ^ m - 1 - k) ≤ pcN (ckN n m k) := fun z => h ⟨h3, z⟩
        omega
      · exact i3 t h1 (by omega) h3
theorem tk_eq {n : Nat → Nat} {m : Nat} : tkN n m (2 ^ m) = some (ckN n m (2 ^ m)) := by
  have hp : 0 < 2 ^ m := Nat.two_pow_pos m
  have hf : hdN n (2 ^ m - 1) m = haN n m := hd_full m (Nat.le_refl _)
  have a := tk_best (n := n) (m := m) (2 ^ m)
  obtain ⟨b0, b1, b2, b3⟩ := ck_best (n := n) (m := m) (2 ^ m) (Nat.le_refl _)
  cases hb : tkN n m (2 ^ m) with
  | none =>
    rw [hb] at a
    exact absurd hf (a (2 ^ m - 1) (by omega))
  | some k =>
    rw [hb] at a
    obtain ⟨a1, a2, a3⟩ := a
    have x1 := a3 (ckN n m (2 ^ m)) (by omega) b2
    have x2 := b3 k (by omega) (by omega) a2
    congr 1
    omega
