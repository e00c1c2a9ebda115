/-! what the law asks of turns from wherever, purely: the search finds the fewest turns -/
/-- where one can be behind l turns -/
def Rw (c : Nat → Nat) (s : Nat) : Nat → Nat → Prop := fun l => match l with
  | 0 => fun r => r = s
  | l + 1 => fun r => ∃ q t, Rw c s l q ∧ t < 3 ∧ r = endsN c q t (c 0)
section PV
variable {c : Nat → Nat} {x : Option Nat} {s : Nat}
theorem endsN_tb {q t y : Nat} : ∀ N, (endsN c q t N).testBit y = true ↔ ∃ z, z < N ∧ q.testBit z = true ∧ c (13 + (3 * z + t)) = y := by
  intro N
  induction N with
  | zero => simp [endsN]
  | succ N ih =>
    rw [endsN]
    by_cases h : q.testBit N = true
    · rw [if_pos h, Nat.testBit_or, tb_shl1, Bool.or_eq_true, ih, decide_eq_true_eq]
      constructor
      · rintro (⟨z, h1, h2, h3⟩ | h1)
        · exact ⟨z, by omega, h2, h3⟩
        · exact ⟨N, by omega, h, h1⟩
      · rintro ⟨z, h1, h2, h3⟩
        by_cases hz : z = N
        · subst hz; exact Or.inr h3
        · exact Or.inl ⟨z, by omega, h2, h3⟩
    · rw [if_neg h, ih]
      constructor
      · rintro ⟨z, h1, h2, h3⟩
        exact ⟨z, by omega, h2, h3⟩
      · rintro ⟨z, h1, h2, h3⟩
        by_cases hz : z = N
        · subst hz; exact absurd h2 h
        · exact ⟨z, by omega, h2, h3⟩
/-- a smaller set leads to a smaller one by the same turns -/
theorem Rw_sub {s' : Nat} (h : ∀ i, s'.testBit i = true → s.testBit i = true) : ∀ l r, Rw c s l r → ∃ r', Rw c s' l r' ∧ ∀ i, r'.testBit i = true → r.testBit i = true := by
  intro l
  induction l with
  | zero =>
    intro r hr
    have hr : r = s := hr
    subst hr
    exact ⟨s', rfl, h⟩
  | succ l ih =>
    rintro r ⟨q, t, h1, h2, h3⟩
    obtain ⟨q', h4, h5⟩ := ih q h1
    refine ⟨_, ⟨q', t, h4, h2, rfl⟩, fun i hi => ?_⟩
    rw [h3]
    obtain ⟨z, e1, e2, e3⟩ := (endsN_tb _).mp hi
    exact (endsN_tb _).mpr ⟨z, e1, h5 z e2, e3⟩
/-- the search's invariant -/
def BI (c : Nat → Nat) (s : Nat) (S : WS) : Prop :=
  (∀ r d, S.2.1 r = some d → (∃ i, i < S.2.2.2 ∧ S.1 i = r) ∧ Rw c s d r ∧ d ≤ 9 ∧ (d = 0 → S.2.2.1 r = 0) ∧ (0 < d → 0 < S.2.2.1 r) ∧ 3 * S.2.2.1 r + 1 ≤ 10 ^ d) ∧
  (∀ i, i < S.2.2.2 → ∃ d, S.2.1 (S.1 i) = some d) ∧
  (∀ i j, i ≤ j → j < S.2.2.2 → dO (S.2.1 (S.1 i)) ≤ dO (S.2.1 (S.1 j))) ∧ S.2.1 s = some 0
def BN (S : WS) (k : Nat) : Prop := ∀ i, i < S.2.2.2 → dO (S.2.1 (S.1 i)) ≤ dO (S.2.1 (S.1 k)) + 1
def BP (c : Nat → Nat) (x : Option Nat) (k : Nat) (S : WS) : Prop := ∀ i, i < k → isE x (S.1 i) = false ∧ (dO (S.2.1 (S.1 i)) < 9 → ∀ t, t < 3 → ∃ d', S.2.1 (endsN c (S.1 i) t (c 0)) = some d' ∧ d' ≤ dO (S.2.1 (S.1 i)) + 1)
/-- one turn tried from the k-th -/
theorem b_T {S : WS} {k d t : Nat} (ht : t < 3) (hk : k < S.2.2.2) (hB : BI c s S) (hN : BN S k) (hd : S.2.1 (S.1 k) = some d) (hd9 : d < 9) :
    BI c s (wvT c (S.1 k) d t S) ∧ BN (wvT c (S.1 k) d t S) k ∧ k < (wvT c (S.1 k) d t S).2.2.2 ∧ (∀ i, i < S.2.2.2 → (wvT c (S.1 k) d t S).1 i = S.1 i) ∧ (∀ r e, S.2.1 r = some e → (wvT c (S.1 k) d t S).2.1 r = some e) ∧ (∃ d', (wvT c (S.1 k) d t S).2.1 (endsN c (S.1 k) t (c 0)) = some d' ∧ d' ≤ d + 1) := by
  obtain ⟨b1, b2, b3, b4⟩ := id hB
  unfold wvT
  by_cases hz : S.2.1 (endsN c (S.1 k) t (c 0)) = none
  · rw [if_pos hz]
    generalize hr : endsN c (S.1 k) t (c 0) = r at hz ⊢
    have q1 : ∀ i, i < S.2.2.2 → (wvA S r (d + 1) (S.2.2.1 (S.1 k) * 10 + t + 1)).1 i = S.1 i := fun i hi => up1_ne (by omega)
    have q2 : (wvA S r (d + 1) (S.2.2.1 (S.1 k) * 10 + t + 1)).1 S.2.2.2 = r := up1_eq
    have s1 : ∀ r' e, S.2.1 r' = some e → (wvA S r (d + 1) (S.2.2.1 (S.1 k) * 10 + t + 1)).2.1 r' = some e := by
      intro r' e he
      have : r' ≠ r := fun z => by rw [z, hz] at he; cases he
      show upO S.2.1 r (d + 1) r' = _
      unfold upO
      rw [if_neg this, he]
    have s2 : (wvA S r (d + 1) (S.2.2.1 (S.1 k) * 10 + t + 1)).2.1 r = some (d + 1) := by
      show upO S.2.1 r (d + 1) r = _
      unfold upO
      rw [if_pos rfl]
    have s3 : ∀ i, i < S.2.2.2 → (wvA S r (d + 1) (S.2.2.1 (S.1 k) * 10 + t + 1)).2.1 ((wvA S r (d + 1) (S.2.2.1 (S.1 k) * 10 + t + 1)).1 i) = S.2.1 (S.1 i) := by
      intro i hi
      obtain ⟨e, he⟩ := b2 i hi
      rw [q1 i hi, he]
      exact s1 _ _ he
    have dk : dO (S.2.1 (S.1 k)) = d := by rw [hd]; rfl
    have f1 : ∀ r' e, S.2.1 r' = some e → (wvA S r (d + 1) (S.2.2.1 (S.1 k) * 10 + t + 1)).2.2.1 r' = S.2.2.1 r' := by
      intro r' e he
      have : r' ≠ r := fun z => by rw [z, hz] at he; cases he
      exact up1_ne this
    have f2 : (wvA S r (d + 1) (S.2.2.1 (S.1 k) * 10 + t + 1)).2.2.1 r = S.2.2.1 (S.1 k) * 10 + t + 1 := up1_eq
    have cn : (wvA S r (d + 1) (S.2.2.1 (S.1 k) * 10 + t + 1)).2.2.2 = S.2.2.2 + 1 := rfl
    obtain ⟨-, rk, -, -, -, fk⟩ := b1 _ _ hd
    refine ⟨⟨?_, ?_, ?_, s1 _ _ b4⟩, ?_, by omega, q1, s1, d + 1, s2, Nat.le_refl _⟩
    · intro r' e he
      by_cases h : r' = r
      · rw [h, s2] at he
        have he : d + 1 = e := Option.some.inj he
        subst he
        rw [h]
        refine ⟨⟨S.2.2.2, by omega, q2⟩, ⟨S.1 k, t, rk, ht, hr.symm⟩, by omega, fun z => by omega, fun _ => by rw [f2]; omega, ?_⟩
        rw [f2, Nat.pow_succ]
        omega
      · have he2 : S.2.1 r' = some e := by
          have he : upO S.2.1 r (d + 1) r' = some e := he
          unfold upO at he
          rwa [if_neg h] at he
        obtain ⟨⟨i, hi, hq⟩, a2, a3, a4, a5, a6⟩ := b1 r' e he2
        rw [f1 r' e he2]
        exact ⟨⟨i, by omega, by rw [q1 i hi]; exact hq⟩, a2, a3, a4, a5, a6⟩
    · intro i hi
      by_cases h : i < S.2.2.2
      · rw [s3 i h]; exact b2 i h
      · rw [show i = S.2.2.2 by omega, q2]; exact ⟨_, s2⟩
    · intro i j hij hj
      by_cases h : j < S.2.2.2
      · rw [s3 i (by omega), s3 j h]; exact b3 i j hij h
      · rw [show j = S.2.2.2 by omega, q2, s2]
        by_cases h2 : i < S.2.2.2
        · rw [s3 i h2]
          have := hN i h2
          rw [dk] at this
          exact this
        · rw [show i = S.2.2.2 by omega, q2, s2]
          exact Nat.le_refl _
    · intro i hi
      rw [s3 k hk, dk]
      by_cases h : i < S.2.2.2
      · rw [s3 i h]
        have := hN i h
        rwa [dk] at this
      · rw [show i = S.2.2.2 by omega, q2, s2]
        exact Nat.le_refl _
  · rw [if_neg hz]
    refine ⟨hB, hN, hk, fun _ _ => rfl, fun _ _ h => h, ?_⟩
    obtain ⟨d', hd'⟩ := Option.ne_none_iff_exists'.mp hz
    refine ⟨d', hd', ?_⟩
    obtain ⟨⟨i, hi, hq⟩, -⟩ := b1 _ _ hd'
    have h1 := hN i hi
    rw [hq, hd', hd] at h1
    exact h1
/-- all turns tried from the k-th -/
theorem b_P {S : WS} {k d : Nat} (hk : k < S.2.2.2) (hB : BI c s S) (hN : BN S k) (hd : S.2.1 (S.1 k) = some d) (hd9 : d < 9) :
    BI c s (wvP c (S.1 k) d S) ∧ BN (wvP c (S.1 k) d S) k ∧ k < (wvP c (S.1 k) d S).2.2.2 ∧ S.2.2.2 ≤ (wvP c (S.1 k) d S).2.2.2 ∧ (∀ i, i < S.2.2.2 → (wvP c (S.1 k) d S).1 i = S.1 i) ∧ (∀ r e, S.2.1 r = some e → (wvP c (S.1 k) d S).2.1 r = some e) ∧ ∀ t, t < 3 → ∃ d', (wvP c (S.1 k) d S).2.1 (endsN c (S.1 k) t (c 0)) = some d' ∧ d' ≤ d + 1 := by
  have le : ∀ (T : WS) (t : Nat), T.2.2.2 ≤ (wvT c (S.1 k) d t T).2.2.2 := by
    intro T t
    unfold wvT
    split
    · exact Nat.le_succ _
    · exact Nat.le_refl _
  unfold wvP
  obtain ⟨a1, a2, a3, a4, a5, a6⟩ := b_T (t := 0) (by omega) hk hB hN hd hd9
  have l1 := le S 0
  generalize hT1 : wvT c (S.1 k) d 0 S = T1 at a1 a2 a3 a4 a5 a6 l1 ⊢
  have e1 := a4 k hk
  obtain ⟨b1, b2, b3, b4, b5, b6⟩ := b_T (t := 1) (by omega) a3 a1 a2 (by rw [e1]; exact a5 _ _ hd) hd9
  rw [e1] at b1 b2 b3 b4 b5 b6
  have l2 := le T1 1
  generalize hT2 : wvT c (S.1 k) d 1 T1 = T2 at b1 b2 b3 b4 b5 b6 l2 ⊢
  have e2 := (b4 k a3).trans e1
  obtain ⟨c1, c2, c3, c4, c5, c6⟩ := b_T (t := 2) (by omega) b3 b1 b2 (by rw [e2]; exact b5 _ _ (a5 _ _ hd)) hd9
  rw [e2] at c1 c2 c3 c4 c5 c6
  have l3 := le T2 2
  refine ⟨c1, c2, c3, by omega, fun i hi => ((c4 i (by omega)).trans (b4 i (by omega))).trans (a4 i hi), fun r e h => c5 _ _ (b5 _ _ (a5 _ _ h)), fun t ht => ?_⟩
  obtain ⟨d0, h0, i0⟩ := a6
  obtain ⟨d1, h1, i1⟩ := b6
  rcases (by omega : t = 0 ∨ t = 1 ∨ t = 2) with rfl | rfl | rfl
  · exact ⟨d0, c5 _ _ (b5 _ _ h0), i0⟩
  · exact ⟨d1, c5 _ _ h1, i1⟩
  · exact c6
/-- what is found behind fewer turns than the next one to be looked at -/
theorem b_lev {S : WS} {k D : Nat} (hB : BI c s S) (hP : BP c x k S) (hD : ∀ i, i < S.2.2.2 → dO (S.2.1 (S.1 i)) < D → i < k) (hD9 : D ≤ 9) : ∀ l r, l ≤ D → Rw c s l r → ∃ d, S.2.1 r = some d ∧ d ≤ l := by
  obtain ⟨b1, b2, b3, b4⟩ := id hB
  intro l
  induction l with
  | zero =>
    intro r _ hr
    have hr : r = s := hr
    subst hr
    exact ⟨0, b4, Nat.le_refl _⟩
  | succ l ih =>
    rintro r hl ⟨q, t, h1, h2, h3⟩
    obtain ⟨d, h4, h5⟩ := ih q (by omega) h1
    obtain ⟨⟨i, hi, hq⟩, -⟩ := b1 _ _ h4
    have hdi : dO (S.2.1 (S.1 i)) = d := by rw [hq, h4]; rfl
    obtain ⟨-, h6⟩ := hP i (hD i hi (by omega))
    obtain ⟨d', h7, h8⟩ := h6 (by omega) t h2
    rw [hq, ← h3] at h7
    exact ⟨d', h7, by omega⟩
/-- what the search answers -/
def WvR (c : Nat → Nat) (x : Option Nat) (s : Nat) (v0 v1 : Int32) : Prop := (∃ d f, d ≤ 9 ∧ v0 = nI d ∧ v1 = nI f ∧ (d = 0 ↔ f = 0) ∧ f < 2 ^ 31 ∧ (∃ r, Rw c s d r ∧ isE x r = true) ∧ ∀ l, l < d → ∀ r, Rw c s l r → isE x r = false) ∨ (v0 = -1 ∧ v1 = -1 ∧ ∀ l, l ≤ 9 → ∀ r, Rw c s l r → isE x r = false)
theorem b_run (hw : WC c) : ∀ (f k : Nat) (S : WS), k + f = 256 → k ≤ S.2.2.2 → wI c S → BI c s S → BP c x k S → (k < S.2.2.2 → BN S k) → WvR c x s (wvR c x 0 f k S) (wvR c x 1 f k S) := by
  have stop : ∀ (k : Nat) (S : WS), S.2.2.2 ≤ k → BI c s S → BP c x k S → ∀ l, l ≤ 9 → ∀ r, Rw c s l r → isE x r = false := by
    intro k S hk hB hP l hl r hr
    obtain ⟨d, h1, -⟩ := b_lev (D := 9) hB hP (fun i hi _ => by omega) (Nat.le_refl _) l r hl hr
    obtain ⟨⟨i, hi, hq⟩, -⟩ := hB.1 _ _ h1
    rw [← hq]
    exact (hP i (by omega)).1
  intro f
  induction f with
  | zero =>
    intro k S hk hkc hI hB hP hN
    exact Or.inr ⟨rfl, rfl, stop k S (by have := wI_le hI; omega) hB hP⟩
  | succ f ih =>
    intro k S hk hkc hI hB hP hN
    rw [wvS, wvS]
    by_cases h1 : k < S.2.2.2
    · rw [if_pos h1, if_pos h1]
      obtain ⟨d, hd⟩ := hB.2.1 k h1
      obtain ⟨-, r2, r3, r4, r5, r6⟩ := hB.1 _ _ hd
      by_cases h2 : isE x (S.1 k) = true
      · rw [if_pos h2, if_pos h2, if_pos rfl, if_neg (by decide)]
        have p9 : 10 ^ d ≤ 10 ^ 9 := Nat.pow_le_pow_right (by decide) r3
        refine Or.inl ⟨d, S.2.2.1 (S.1 k), r3, by rw [hd]; rfl, rfl, ⟨fun z => r4 z, fun z => ?_⟩, by omega, ⟨S.1 k, r2, h2⟩, fun l hl r hr => ?_⟩
        · apply Classical.byContradiction
          intro h
          have := r5 (by omega)
          omega
        · obtain ⟨d', h3, h4⟩ := b_lev (D := d) hB hP (fun i hi hlt => by
            apply Classical.byContradiction
            intro h
            have := hB.2.2.1 k i (by omega) hi
            rw [hd] at this
            have this : d ≤ dO (S.2.1 (S.1 i)) := this
            omega) r3 l r (by omega) hr
          obtain ⟨⟨i, hi, hq⟩, -⟩ := hB.1 _ _ h3
          have hik : i < k := by
            apply Classical.byContradiction
            intro h
            have := hB.2.2.1 k i (by omega) hi
            rw [hd, hq, h3] at this
            have this : d ≤ d' := this
            omega
          rw [← hq]
          exact (hP i hik).1
      · have h2' : isE x (S.1 k) = false := by simpa using h2
        rw [if_neg h2, if_neg h2]
        have dk : dO (S.2.1 (S.1 k)) = d := by rw [hd]; rfl
        rw [dk]
        by_cases h9 : d < 9
        · rw [if_pos h9]
          obtain ⟨p1, p2, p3, p4, p5, p6, p7⟩ := b_P h1 hB (hN h1) hd h9
          have hI' : wI c (wvP c (S.1 k) d S) := wI_T hw (wI_T hw (wI_T hw hI (by omega) h9) (by omega) h9) (by omega) h9
          generalize wvP c (S.1 k) d S = T at p1 p2 p3 p4 p5 p6 p7 hI' ⊢
          have sd : ∀ i, i < S.2.2.2 → T.2.1 (T.1 i) = S.2.1 (S.1 i) := fun i hi => by
            obtain ⟨e, he⟩ := hB.2.1 i hi
            rw [p5 i hi, he]
            exact p6 _ _ he
          refine ih (k + 1) T (by omega) (by omega) hI' p1 ?_ ?_
          · intro i hi
            by_cases hik : i = k
            · subst hik
              rw [sd i h1, p5 i h1, dk]
              exact ⟨h2', fun _ t ht => p7 t ht⟩
            · have hi2 : i < S.2.2.2 := by omega
              obtain ⟨q1, q2⟩ := hP i (by omega)
              rw [sd i hi2, p5 i hi2]
              refine ⟨q1, fun h t ht => ?_⟩
              obtain ⟨d', e1, e2⟩ := q2 h t ht
              exact ⟨d', p6 _ _ e1, e2⟩
          · intro hk1 i hi
            have := p2 i hi
            have := p1.2.2.1 k (k + 1) (by omega) hk1
            omega
        · rw [if_neg h9]
          refine ih (k + 1) S (by omega) (by omega) hI hB ?_ ?_
          · intro i hi
            by_cases hik : i = k
            · subst hik
              exact ⟨h2', fun h => by rw [dk] at h; exact absurd h h9⟩
            · exact hP i (by omega)
          · intro hk1 i hi
            have := hN h1 i hi
            have := hB.2.2.1 k (k + 1) (by omega) hk1
            omega
    · rw [if_neg h1, if_neg h1]
      exact Or.inr ⟨rfl, rfl, stop k S (by omega) hB hP⟩
theorem b_find (hw : WC c) (hs : s < 2 ^ c 0) : WvR c x s (wvF c x 0 s) (wvF c x 1 s) := by
  have e0 : (wvA wv0 s 0 0).2.1 s = some 0 := by
    show upO (fun _ => none) s 0 s = _
    unfold upO
    rw [if_pos rfl]
  have q0 : (wvA wv0 s 0 0).1 0 = s := (up1_eq : up1 (fun _ => 0) 0 s 0 = s)
  have en : ∀ r e, (wvA wv0 s 0 0).2.1 r = some e → r = s ∧ e = 0 := by
    intro r e he
    have he : upO (fun _ => none) s 0 r = some e := he
    unfold upO at he
    by_cases h : r = s
    · rw [if_pos h] at he
      exact ⟨h, (Option.some.inj he).symm⟩
    · rw [if_neg h] at he
      cases he
  have f0 : (wvA wv0 s 0 0).2.2.1 s = 0 := up1_eq
  have cn : (wvA wv0 s 0 0).2.2.2 = 1 := rfl
  refine b_run hw 256 0 _ rfl (Nat.zero_le _) (wI_A hw wI_0 hs rfl (by omega)) ⟨?_, ?_, ?_, e0⟩ (fun i hi => by omega) ?_
  · intro r e he
    obtain ⟨rfl, rfl⟩ := en r e he
    exact ⟨⟨0, by omega, q0⟩, rfl, by omega, fun _ => f0, fun z => by omega, by rw [f0]; decide⟩
  · intro i hi
    rw [show i = 0 by omega, q0]
    exact ⟨0, e0⟩
  · intro i j hij hj
    rw [show i = 0 by omega, show j = 0 by omega]
    exact Nat.le_refl _
  · intro _ i hi
    rw [show i = 0 by omega]
    exact Nat.le_succ _
end PV
