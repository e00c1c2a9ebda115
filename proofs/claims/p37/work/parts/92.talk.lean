/-! what the law asks of who talks, of nights by draws, of clouds, purely -/
section PT
variable {c n : Nat → Nat} {m : Nat}
theorem pc_6 : ∀ s, s < 64 → ∀ k, k < 6 → s.testBit k = true → pcN (andn s (1 <<< k)) < pcN s := by decide +kernel
theorem pc_z : ∀ s, s < 64 → pcN s = 0 → s = 0 := by decide +kernel
theorem hdN_cg {s s' : Nat} : ∀ g, (∀ i, i < g → s.testBit i = s'.testBit i) → hdN n s g = hdN n s' g := by
  intro g
  induction g with
  | zero => intro _; rfl
  | succ g ih =>
    intro h
    rw [hdN, hdN, h g (by omega), ih (fun i hi => h i (by omega))]
theorem pt_talk (hm : m ≤ 6) : ∃ k, tkN n m (1 <<< m) = some k ∧ k < 2 ^ m ∧ hdN n k m = haN n m ∧ (haN n m = 0 → k = 0) ∧ ∀ i, i < m → k.testBit i = true → hdN n (andn k (1 <<< i)) m ≠ haN n m := by
  have h1 := tk_best (n := n) (m := m) (1 <<< m)
  have p6 : 2 ^ m ≤ 2 ^ 6 := Nat.pow_le_pow_right (by decide) hm
  have p0 : 0 < 2 ^ m := Nat.two_pow_pos m
  rw [Nat.one_shiftLeft] at h1 ⊢
  rw [tk_eq] at h1 ⊢
  obtain ⟨h2, h3, h4⟩ := h1
  refine ⟨_, rfl, h2, h3, fun h0 => ?_, fun i hi hb he => ?_⟩
  · have h5 : hdN n 0 m = 0 := by
      have : ∀ g, hdN n 0 g = 0 := by
        intro g
        induction g with
        | zero => rfl
        | succ g ih => rw [hdN, ih]; simp
      exact this m
    have h6 := h4 0 p0 (by rw [h5, h0])
    have h7 : pcN 0 = 0 := by decide
    exact pc_z _ (by omega) (by omega)
  · have h5 := pc_6 _ (show ckN n m (2 ^ m) < 64 by omega) i (by omega) hb
    have h6 := h4 (andn (ckN n m (2 ^ m)) (1 <<< i)) (Nat.lt_of_le_of_lt (show andn _ _ ≤ _ from Nat.and_le_left) h2) he
    omega
theorem haN_lt2 {N : Nat} (h : ∀ g, g < m → n (12 + g) < 2 ^ N) : haN n m < 2 ^ N := by
  have key : ∀ g, g ≤ m → haN n g < 2 ^ N := by
    intro g
    induction g with
    | zero => intro _; exact Nat.two_pow_pos N
    | succ g ih => intro hg; exact or_lt (ih (by omega)) (h g (by omega))
  exact key m (Nat.le_refl _)
-- drift
theorem hi_21 {g e pr : Nat} (hn : n 21 ≤ 999999) : n 21 ≤ hiN c n g e pr 21 := by
  unfold hiN
  rw [if_pos rfl]
  omega
theorem hi_k {g e pr i : Nat} (hg : g < 6) (hi : i < 6) : hiN c n g e pr (6 + i) = n (6 + i) := by
  unfold hiN
  rw [if_neg (by omega), if_neg (by omega), if_neg (by omega), if_neg (by omega)]
theorem at_21 {s : Nat} (hn : n 21 ≤ 999999) : n 21 ≤ atN c n s 21 ∧ atN c n s 21 ≤ 999999 := by
  unfold atN
  cases lwN c n (drV s (c 2)) (drV (drS s) (c 3)) with
  | none => exact ⟨Nat.le_refl _, hn⟩
  | some d =>
    refine ⟨hi_21 hn, ?_⟩
    show hiN c n _ _ _ 21 ≤ _
    unfold hiN
    rw [if_pos rfl]
    omega
theorem at_k {s i : Nat} (hc : 0 < c 2) (h6 : c 2 ≤ 6) (hi : i < 6) : atN c n s (6 + i) = n (6 + i) := by
  unfold atN
  cases lwN c n (drV s (c 2)) (drV (drS s) (c 3)) with
  | none => rfl
  | some d =>
    have h1 : drV s (c 2) < c 2 := drV_lt hc
    exact hi_k (by omega) hi
theorem aa_21 {s : Nat} (hn : n 21 ≤ 999999) : n 21 ≤ aaN c n s 21 ∧ aaN c n s 21 ≤ 999999 := by
  unfold aaN
  split
  · have h1 := at_21 (c := c) (s := s) hn
    have h2 := at_21 (c := c) (s := drS (drS s)) h1.2
    have h3 := at_21 (c := c) (s := drS (drS (drS (drS s)))) h2.2
    omega
  · exact ⟨Nat.le_refl _, hn⟩
theorem aa_k {s i : Nat} (h6 : c 2 ≤ 6) (hi : i < 6) : aaN c n s (6 + i) = n (6 + i) := by
  unfold aaN
  split
  · next h => rw [at_k h.1 h6 hi, at_k h.1 h6 hi, at_k h.1 h6 hi]
  · rfl
theorem pn_21 {s : Nat} (hn : n 21 ≤ 999999) : n 21 ≤ pnN c n s 21 ∧ pnN c n s 21 ≤ 999999 := by
  have h := aa_21 (c := c) (s := s) hn
  have e : pnN c n s 21 = aaN c n s 21 := by
    unfold pnN
    rw [up1_ne (by omega), up1_ne (by omega)]
    unfold dwN wdN
    split
    · rw [up1_ne (by omega)]
    · rfl
  rw [e]
  exact h
theorem pn_k {s i : Nat} (h6 : c 2 ≤ 6) (hi : i < 6) : pnN c n s (6 + i) = n (6 + i) := by
  unfold pnN
  rw [up1_ne (by omega), up1_ne (by omega)]
  unfold dwN wdN
  split
  · rw [up1_ne (by omega), aa_k h6 hi]
  · exact aa_k h6 hi
theorem pn_18 {s : Nat} : pnN c n s 18 = 0 := by
  unfold pnN
  rw [up1_eq]
theorem di_21 (h6 : c 2 ≤ 6) : ∀ (r : Nat) (n : Nat → Nat) (s : Nat), n 21 ≤ 999999 → n 21 ≤ (diN c r n s).1 21 ∧ (diN c r n s).1 20 = n 20 + r ∧ (∀ i, i < 6 → (diN c r n s).1 (6 + i) = n (6 + i)) ∧ (0 < r → (diN c r n s).1 18 = 0) := by
  intro r
  induction r with
  | zero => intro n s hn; exact ⟨Nat.le_refl _, rfl, fun _ _ => rfl, fun z => absurd z (by omega)⟩
  | succ r ih =>
    intro n s hn
    obtain ⟨h1, h2⟩ := pn_21 (c := c) (s := s) hn
    obtain ⟨i1, i2, i3, i4⟩ := ih (pnN c n s) (dwS c s) h2
    refine ⟨Nat.le_trans h1 i1, ?_, fun i hi => (i3 i hi).trans (pn_k h6 hi), fun _ => ?_⟩
    · show (diN c r (pnN c n s) (dwS c s)).1 20 = _
      rw [i2, pnN_20]
      omega
    · show (diN c r (pnN c n s) (dwS c s)).1 18 = _
      cases r with
      | zero =>
        show pnN c n s 18 = 0
        exact pn_18
      | succ r => exact i4 (by omega)
-- clouds
/-- the odds, as numbers -/
def clV (q : Nat) : Nat → Nat → Nat := fun k u => match k with
  | 0 => u
  | k + 1 => clV q k (u * q / 100)
theorem clV_le {q : Nat} (hq : q ≤ 100) : ∀ k u, clV q k u ≤ u := by
  intro k
  induction k with
  | zero => intro u; exact Nat.le_refl _
  | succ k ih =>
    intro u
    refine Nat.le_trans (ih _) ?_
    have : u * q ≤ u * 100 := Nat.mul_le_mul_left u hq
    omega
theorem clV_mono {q : Nat} : ∀ k u v, u ≤ v → clV q k u ≤ clV q k v := by
  intro k
  induction k with
  | zero => intro u v h; exact h
  | succ k ih =>
    intro u v h
    refine ih _ _ ?_
    have : u * q ≤ v * q := Nat.mul_le_mul_right q h
    omega
theorem clV_add {q : Nat} : ∀ i k u, clV q (i + k) u = clV q k (clV q i u) := by
  intro i
  induction i with
  | zero => intro k u; rw [Nat.zero_add]; rfl
  | succ i ih =>
    intro k u
    rw [show i + 1 + k = i + k + 1 by omega]
    exact ih k _
theorem clV_100 : ∀ k u, clV 100 k u = u := by
  intro k
  induction k with
  | zero => intro u; rfl
  | succ k ih =>
    intro u
    show clV 100 k (u * 100 / 100) = u
    rw [ih]
    omega
theorem lN_div {a : Nat} (ha : a < 2 ^ 62) : lN a / lN 100 = lN (a / 100) := by
  have h1 : (lN a).toInt = a := by
    unfold lN
    exact Int64.toInt_ofNat_of_lt (by omega)
  have h2 : (lN 100).toInt = 100 := rfl
  have h3 : (lN (a / 100)).toInt = (a / 100 : Nat) := by
    unfold lN
    exact Int64.toInt_ofNat_of_lt (by omega)
  apply Int64.toInt_inj.mp
  rw [Int64.toInt_div_of_ne_right _ _ (by decide), h1, h2, h3]
  rfl
theorem cl_val {q : Nat} (hq : q ≤ 100) : ∀ k u, u ≤ 1000000000 → clN (nI q).toInt64 k (lN u) = lN (clV q k u) := by
  have e : (nI q).toInt64 = lN q := by
    apply Int64.toInt_inj.mp
    rw [Int32.toInt_toInt64, nI_toInt (by omega)]
    unfold lN
    rw [Int64.toInt_ofNat_of_lt (by omega)]
  intro k
  induction k with
  | zero => intro u _; rfl
  | succ k ih =>
    intro u hu
    have h1 : u * q ≤ 1000000000 * 100 := Nat.mul_le_mul hu hq
    show clN (nI q).toInt64 k (lN u * (nI q).toInt64 / lN 100) = _
    rw [e, lN_mul, lN_div (by omega), ← e, ih _ (by omega)]
    rfl
theorem lN_32 {u : Nat} (hu : u < 2 ^ 31) : (lN u).toInt32 = nI u := by
  apply Int32.toInt_inj.mp
  rw [nI_toInt hu]
  unfold lN
  rw [Int64.toInt_toInt32, Int64.toInt_ofNat_of_lt (by omega)]
  rw [Int.bmod_def]
  omega
theorem pt_clouds {q d : Nat} (hq : q ≤ 100) : (clN (nI q).toInt64 d (lN 1000000000)).toInt32 = nI (clV q d 1000000000) ∧ clV q d 1000000000 ≤ 1000000000 := by
  have h1 := clV_le hq d 1000000000
  refine ⟨?_, h1⟩
  rw [cl_val hq d _ (Nat.le_refl _), lN_32 (by omega)]
end PT
