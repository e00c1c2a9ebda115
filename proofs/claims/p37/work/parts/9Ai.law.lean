/-! the law: all guides; a match -/
section LW9
variable {N : Nat} {xs : Nat → Int32} {σ : dm_G} {Q : Option Value → dm_G → Prop} {g : Nat} {a8 a13 a14 a15 a16 a17 a18 a19 a20 a21 a22 a23 a24 a25 a26 a27 a28 a29 : Option Value} {c n : Nat → Nat} {k : Nat} {p : Nat → Nat → Nat} {q : Nat} {im : Nat → Nat → Nat} {h : Nat} {hs ht : Nat → Nat} {m : Nat} {bg bx : Nat → Nat} {L : Nat} {tx : Nat → Nat} {f : Int32} {s : Nat}
theorem l_g (hN : N < 2 ^ 31) (hK : KA c n k p q im h hs ht m bg bx L tx f s σ) (hT : TF c σ) (kk : ∀ {a8 a13 a14 a15 a16 a17 a18 a19 a20 a21 a22 a23 a24 a25 a26 a27 a28 a29 : Option Value}, Wq (some (N, xs)) 133 2094 [some (.retAddr 0), some (.ref (0 : Nat)), some (.ref (118 : Nat)), some (.ref (119 : Nat)), some (.ref (120 : Nat)), some (.int (nI (c 0))), some (.int (nI (c 2))), some (.int (nI (c 3))), a8, some (.int (nI (n 20))), some (.int (nI (n 21))), some (.int (nI (n 19))), some (.int (nI (n 18))), a13, a14, a15, a16, a17, a18, a19, a20, a21, a22, a23, a24, a25, a26, a27, a28, a29] [] σ Q) : ∀ (f' g : Nat) {a8 a13 a14 a15 a16 a17 a18 a19 a20 a21 a22 a23 a24 a25 a26 a27 a28 a29 : Option Value}, g + f' = c 2 → Wq (some (N, xs)) 133 1473 [some (.retAddr 0), some (.ref (0 : Nat)), some (.ref (118 : Nat)), some (.ref (119 : Nat)), some (.ref (120 : Nat)), some (.int (nI (c 0))), some (.int (nI (c 2))), some (.int (nI (c 3))), a8, some (.int (nI (n 20))), some (.int (nI (n 21))), some (.int (nI (n 19))), some (.int (nI (n 18))), some (.int (nI g)), a14, a15, a16, a17, a18, a19, a20, a21, a22, a23, a24, a25, a26, a27, a28, a29] [] σ Q := by
  have w2 := hK.1.1.2.1
  intro f'
  induction f' with
  | zero =>
    intro g a8 a13 a14 a15 a16 a17 a18 a19 a20 a21 a22 a23 a24 a25 a26 a27 a28 a29 hg
    obtain rfl : g = c 2 := by omega
    rw [w133_1473]
    simp only [w133_1475, w133_1477, nI_le (Nat.le_refl (c 2)) (show c 2 < 2 ^ 31 by omega), ↓reduceIte, Option.toList_some, Option.toList_none, List.cons_append, List.nil_append]
    exact kk
  | succ f' ih =>
    intro g a8 a13 a14 a15 a16 a17 a18 a19 a20 a21 a22 a23 a24 a25 a26 a27 a28 a29 hg
    have hgg : g < c 2 := by omega
    have u0 := fun Q => Cq_of (Q := Q) (q_guide (j := 0) hK hgg (by omega))
    have u2 := fun Q => Cq_of (Q := Q) (q_guide (j := 2) hK hgg (by omega))
    have u4 := fun Q => Cq_of (Q := Q) (q_guide (j := 4) hK hgg (by omega))
    simp only [gdN] at u0 u2 u4
    rw [w133_1473]
    simp only [w133_1475, w133_1477, w133_1480, w133_1481, w133_1483, w133_1484, w133_1487, w133_1489, w133_1490, w133_1491, w133_1492, w133_1494, w133_1495, w133_1497, w133_1498, w133_1501, w133_1503, w133_1504, w133_1506, w133_1507, w133_1510, w133_1512, w133_1513, nI_ge hgg (show c 2 < 2 ^ 31 by omega), ks_0, u2, nI_andn, u4, u0, ↓reduceIte, Option.toList_some, Option.toList_none, List.cons_append, List.nil_append]
    refine l_a hK hgg (fun v17 v18 v19 v20 v21 v22 v23 => ?_) (c 0) 0 _ _ _ _ _ _ (by omega)
    refine l_r hN hK hgg (fun v17 => ?_)
    simp only [w133_1908, w133_1909]
    refine l_e hK hT hgg (fun v18 v19 => ?_) (c 3) 0 _ (by omega)
    simp only [w133_2088, w133_2091, nI_add]
    exact ih (g + 1) (a13 := none) (by omega)
/-- is the guide left, as far as the clients up to i go -/
def frF (r : Nat → Nat) (k : Nat) : Nat → Nat := fun i => match i with
  | 0 => 1
  | i + 1 => frF r k i &&& (if r i = k then 0 else 1)
theorem frS {r : Nat → Nat} {k i : Nat} : frF r k (i + 1) = frF r k i &&& (if r i = k then 0 else 1) := rfl
theorem frF_b {r : Nat → Nat} {k : Nat} : ∀ i, frF r k i ≤ 1 := by
  intro i
  induction i with
  | zero => exact Nat.le_refl _
  | succ i ih => rw [frS]; exact Nat.le_trans Nat.and_le_left ih
theorem frF_n {r : Nat → Nat} {k : Nat} : ∀ i, frF r k i ≠ 0 → ∀ j, j < i → r j ≠ k := by
  intro i
  induction i with
  | zero => intro _ j hj; omega
  | succ i ih =>
    intro h j hj
    rw [frS] at h
    by_cases hji : j = i
    · subst hji
      intro hk
      rw [if_pos hk] at h
      simp at h
    · refine ih (fun z => h ?_) j (by omega)
      rw [z]
      simp
/-- one guide is looked at: is he left? -/
theorem l_fr {e k' : Nat} (hk : k' < c 2) (kk : ∀ τ v23, KA c n k p q im h hs ht m bg bx L tx f s τ → TF c τ → Wq (some (N, xs)) 133 2237 [some (.retAddr 0), some (.ref (0 : Nat)), some (.ref (118 : Nat)), some (.ref (119 : Nat)), some (.ref (120 : Nat)), some (.int (nI (c 0))), some (.int (nI (c 2))), some (.int (nI (c 3))), a8, some (.int (nI (n 20))), some (.int (nI (n 21))), some (.int (nI (n 19))), some (.int (nI (n 18))), a13, a14, some (.int (nI (coR (prM c n) (c 2) (mrN c n) e))), some (.int (nI (tkR (c 2) (mrN c n) e))), some (.int (nI (mnR (c 2) (mrN c n) e))), some (.int (nI (lgR (lenM c n) (c 2) (mrN c n) e))), some (.int (nI e)), a20, some (.int (nI k')), some (.int (nI (frF (mrN c n) k' (c 3)))), v23, a24, a25, a26, a27, a28, a29] [] τ Q) : ∀ (f' i : Nat) (σ : dm_G), i + f' = c 3 → KA c n k p q im h hs ht m bg bx L tx f s σ → TF c σ → Wq (some (N, xs)) 133 2203 [some (.retAddr 0), some (.ref (0 : Nat)), some (.ref (118 : Nat)), some (.ref (119 : Nat)), some (.ref (120 : Nat)), some (.int (nI (c 0))), some (.int (nI (c 2))), some (.int (nI (c 3))), a8, some (.int (nI (n 20))), some (.int (nI (n 21))), some (.int (nI (n 19))), some (.int (nI (n 18))), a13, a14, some (.int (nI (coR (prM c n) (c 2) (mrN c n) e))), some (.int (nI (tkR (c 2) (mrN c n) e))), some (.int (nI (mnR (c 2) (mrN c n) e))), some (.int (nI (lgR (lenM c n) (c 2) (mrN c n) e))), some (.int (nI e)), a20, some (.int (nI k')), some (.int (nI (frF (mrN c n) k' i))), some (.int (nI i)), a24, a25, a26, a27, a28, a29] [] σ Q := by
  intro f'
  induction f' with
  | zero =>
    intro i σ hi hK hT
    have w3 := hK.1.1.2.2.1
    obtain rfl : i = c 3 := by omega
    rw [w133_2203]
    simp only [w133_2205, w133_2207, nI_le (Nat.le_refl (c 3)) (show c 3 < 2 ^ 31 by omega), ↓reduceIte, Option.toList_some, Option.toList_none, List.cons_append, List.nil_append]
    exact kk σ _ hK hT
  | succ f' ih =>
    intro i σ hi hK hT
    have w2 := hK.1.1.2.1
    have w3 := hK.1.1.2.2.1
    have hii : i < c 3 := by omega
    obtain ⟨τ, e1, K1, k1⟩ := q_match hK hii
    have c1 := fun Q => Cq_of (Q := Q) e1
    have h1 := ih (i + 1) τ (by omega) K1 (TF_F hT k1)
    rw [frS] at h1
    rw [w133_2203]
    rcases mt_mr (n := n) hii with ⟨m1, m2⟩ | ⟨m1, m2⟩
    · rw [m1] at c1
      rw [if_neg (by omega)] at h1
      have hne : ¬ (-1 : Int32) = nI k' := nI_m1 (by omega)
      simp only [oI] at c1
      simp only [w133_2205, w133_2207, w133_2210, w133_2212, w133_2213, w133_2215, w133_2218, w133_2220, w133_2223, w133_2224, w133_2227, w133_2228, w133_2229, w133_2231, w133_2234, nI_ge hii (show c 3 < 2 ^ 31 by omega), ks_0, c1, hne, nI_and, nI_add, ↓reduceIte, Option.toList_some, Option.toList_none, List.cons_append, List.nil_append]
      exact h1
    · rw [m1] at c1
      simp only [oI] at c1
      by_cases hk2 : mrN c n i = k'
      · rw [if_pos hk2] at h1
        have he : nI (mrN c n i) = nI k' := by rw [hk2]
        simp only [w133_2205, w133_2207, w133_2210, w133_2212, w133_2213, w133_2215, w133_2218, w133_2220, w133_2223, w133_2224, w133_2227, w133_2228, w133_2229, w133_2231, w133_2234, nI_ge hii (show c 3 < 2 ^ 31 by omega), ks_0, c1, he, nI_and, nI_add, ↓reduceIte, Option.toList_some, Option.toList_none, List.cons_append, List.nil_append]
        exact h1
      · rw [if_neg hk2] at h1
        have he : ¬ nI (mrN c n i) = nI k' := fun z => hk2 (nI_inj (by omega) (by omega) z)
        simp only [w133_2205, w133_2207, w133_2210, w133_2212, w133_2213, w133_2215, w133_2218, w133_2220, w133_2223, w133_2224, w133_2227, w133_2228, w133_2229, w133_2231, w133_2234, nI_ge hii (show c 3 < 2 ^ 31 by omega), ks_0, c1, he, nI_and, nI_add, ↓reduceIte, Option.toList_some, Option.toList_none, List.cons_append, List.nil_append]
        exact h1
/-- nobody who is left could lead one who is left -/
theorem l_un {e : Nat} (he : e < c 3) (hr : mrN c n e = c 2) (kk : ∀ τ v21 v22 v23, KA c n k p q im h hs ht m bg bx L tx f s τ → TF c τ → Wq (some (N, xs)) 133 2262 [some (.retAddr 0), some (.ref (0 : Nat)), some (.ref (118 : Nat)), some (.ref (119 : Nat)), some (.ref (120 : Nat)), some (.int (nI (c 0))), some (.int (nI (c 2))), some (.int (nI (c 3))), a8, some (.int (nI (n 20))), some (.int (nI (n 21))), some (.int (nI (n 19))), some (.int (nI (n 18))), a13, a14, some (.int (nI (coR (prM c n) (c 2) (mrN c n) e))), some (.int (nI (tkR (c 2) (mrN c n) e))), some (.int (nI (mnR (c 2) (mrN c n) e))), some (.int (nI (lgR (lenM c n) (c 2) (mrN c n) e))), some (.int (nI e)), a20, v21, v22, v23, a24, a25, a26, a27, a28, a29] [] τ Q) : ∀ (f' k' : Nat) (σ : dm_G) (v22 v23 : Option Value), k' + f' = c 2 → KA c n k p q im h hs ht m bg bx L tx f s σ → TF c σ → Wq (some (N, xs)) 133 2190 [some (.retAddr 0), some (.ref (0 : Nat)), some (.ref (118 : Nat)), some (.ref (119 : Nat)), some (.ref (120 : Nat)), some (.int (nI (c 0))), some (.int (nI (c 2))), some (.int (nI (c 3))), a8, some (.int (nI (n 20))), some (.int (nI (n 21))), some (.int (nI (n 19))), some (.int (nI (n 18))), a13, a14, some (.int (nI (coR (prM c n) (c 2) (mrN c n) e))), some (.int (nI (tkR (c 2) (mrN c n) e))), some (.int (nI (mnR (c 2) (mrN c n) e))), some (.int (nI (lgR (lenM c n) (c 2) (mrN c n) e))), some (.int (nI e)), a20, some (.int (nI k')), v22, v23, a24, a25, a26, a27, a28, a29] [] σ Q := by
  intro f'
  induction f' with
  | zero =>
    intro k' σ v22 v23 hi hK hT
    have w2 := hK.1.1.2.1
    obtain rfl : k' = c 2 := by omega
    rw [w133_2190]
    simp only [w133_2192, w133_2194, nI_le (Nat.le_refl (c 2)) (show c 2 < 2 ^ 31 by omega), ↓reduceIte, Option.toList_some, Option.toList_none, List.cons_append, List.nil_append]
    exact kk σ _ _ _ hK hT
  | succ f' ih =>
    intro k' σ v22 v23 hi hK hT
    have w2 := hK.1.1.2.1
    have hk : k' < c 2 := by omega
    rw [w133_2190]
    simp only [w133_2192, w133_2194, w133_2197, w133_2198, w133_2200, w133_2201, nI_ge hk (show c 2 < 2 ^ 31 by omega), ↓reduceIte, Option.toList_some, Option.toList_none, List.cons_append, List.nil_append]
    refine l_fr (e := e) hk (fun τ v23 K1 T1 => ?_) (c 3) 0 σ (by omega) hK hT
    have hfb := frF_b (r := mrN c n) (k := k') (c 3)
    by_cases hz : frF (mrN c n) k' (c 3) = 0
    · have ez : nI (frF (mrN c n) k' (c 3)) = nI 0 := by rw [hz]
      have h1 := ih (k' + 1) τ (some (.int (nI (frF (mrN c n) k' (c 3))))) v23 (by omega) K1 T1
      rw [w133_2237]
      simp only [w133_2239, w133_2256, w133_2259, ez, nI_add, ↓reduceIte, Option.toList_some, Option.toList_none, List.cons_append, List.nil_append]
      rw [ez] at h1
      exact h1
    · have ez : ¬ nI (frF (mrN c n) k' (c 3)) = nI 0 := fun z => hz (nI_inj (by omega) (by omega) z)
      have hnone := pm_max K1.1.1 he hr hk (frF_n _ hz)
      have L0 := fun Q => Cq_of (Q := Q) (q_leads (j := 0) K1 hk he (by omega))
      have e0 : ldN c n k' e 0 = none := by unfold ldN; rw [hnone]
      rw [e0] at L0
      simp only [oI] at L0
      have h1 := ih (k' + 1) τ (some (.int (nI (frF (mrN c n) k' (c 3))))) v23 (by omega) K1 T1
      rw [w133_2237]
      simp only [w133_2239, w133_2242, w133_2243, w133_2245, w133_2247, w133_2248, w133_2251, w133_2254, w133_2255, w133_2256, w133_2259, ez, ks_0, L0, (by decide : (-1 : Int32) < nI 0), nI_add, ↓reduceIte, Option.toList_some, Option.toList_none, List.cons_append, List.nil_append]
      exact h1
theorem mr_b {r : Nat → Nat} {G : Nat} : ∀ e, mnR G r e ≤ e := by
  intro e
  induction e with
  | zero => exact Nat.le_refl _
  | succ e ih => rw [mnR]; split <;> omega
theorem tk_b {r : Nat → Nat} {G : Nat} (hG : G ≤ 6) : ∀ e, tkR G r e < 2 ^ 6 := by
  intro e
  induction e with
  | zero => exact (by decide : 0 < 2 ^ 6)
  | succ e ih =>
    rw [tkR]
    split
    · exact or_lt ih (one_shl (by omega))
    · exact ih
/-- the clients of the match -/
theorem l_mt (kk : ∀ τ v20 v21 v22 v23, KA c n k p q im h hs ht m bg bx L tx f s τ → TF c τ → Wq (some (N, xs)) 133 2327 [some (.retAddr 0), some (.ref (0 : Nat)), some (.ref (118 : Nat)), some (.ref (119 : Nat)), some (.ref (120 : Nat)), some (.int (nI (c 0))), some (.int (nI (c 2))), some (.int (nI (c 3))), a8, some (.int (nI (n 20))), some (.int (nI (n 21))), some (.int (nI (n 19))), some (.int (nI (n 18))), a13, a14, some (.int (nI (costN (lenM c n) (prM c n) (c 2) (c 3)))), a16, some (.int (nI (mostN (lenM c n) (prM c n) (c 2) (c 3)))), some (.int (nI (longN (lenM c n) (prM c n) (c 2) (c 3)))), some (.int (nI (c 3))), v20, v21, v22, v23, a24, a25, a26, a27, a28, a29] [] τ Q) (ha16 : a16 = some (.int (nI (tkR (c 2) (mrN c n) (c 3))))) : ∀ (f' e : Nat) (σ : dm_G) (v20 v21 v22 v23 : Option Value), e + f' = c 3 → KA c n k p q im h hs ht m bg bx L tx f s σ → TF c σ → Wq (some (N, xs)) 133 2124 [some (.retAddr 0), some (.ref (0 : Nat)), some (.ref (118 : Nat)), some (.ref (119 : Nat)), some (.ref (120 : Nat)), some (.int (nI (c 0))), some (.int (nI (c 2))), some (.int (nI (c 3))), a8, some (.int (nI (n 20))), some (.int (nI (n 21))), some (.int (nI (n 19))), some (.int (nI (n 18))), a13, a14, some (.int (nI (coR (prM c n) (c 2) (mrN c n) e))), some (.int (nI (tkR (c 2) (mrN c n) e))), some (.int (nI (mnR (c 2) (mrN c n) e))), some (.int (nI (lgR (lenM c n) (c 2) (mrN c n) e))), some (.int (nI e)), v20, v21, v22, v23, a24, a25, a26, a27, a28, a29] [] σ Q := by
  intro f'
  induction f' with
  | zero =>
    intro e σ v20 v21 v22 v23 he hK hT
    have w3 := hK.1.1.2.2.1
    obtain rfl : e = c 3 := by omega
    obtain ⟨k1, k2, k3⟩ := pm_key (n := n) hK.1.1
    have h1 := kk σ v20 v21 v22 v23 hK hT
    rw [ha16, ← k1, ← k2, ← k3] at h1
    rw [w133_2124]
    simp only [w133_2126, w133_2128, nI_le (Nat.le_refl (c 3)) (show c 3 < 2 ^ 31 by omega), ↓reduceIte, Option.toList_some, Option.toList_none, List.cons_append, List.nil_append]
    exact h1
  | succ f' ih =>
    intro e σ v20 v21 v22 v23 he hK hT
    have w2 := hK.1.1.2.1
    have w3 := hK.1.1.2.2.1
    have hee : e < c 3 := by omega
    obtain ⟨τ, e1, K1, k1⟩ := q_match hK hee
    have T1 := TF_F hT k1
    have c1 := fun Q => Cq_of (Q := Q) e1
    have hfe := pm_fe (c := c) (n := n) e hee
    rw [w133_2124]
    rcases mt_mr (n := n) hee with ⟨m1, m2⟩ | ⟨m1, m2⟩
    · rw [m1] at c1
      simp only [oI] at c1
      have x1 : ¬ (-1 : Int32) < -1 := by decide
      have x2 : ¬ nI (c 2) ≤ (-1 : Int32) := fun z => by
        rw [Int32.le_iff_toInt_le, nI_toInt (by omega), show (-1 : Int32).toInt = -1 from rfl] at z
        omega
      have x3 : (-1 : Int32) < nI 0 := by decide
      have x4 : ¬ nI 0 ≤ (-1 : Int32) := by decide
      simp only [w133_2126, w133_2128, w133_2131, w133_2132, w133_2134, w133_2137, w133_2139, w133_2141, w133_2142, w133_2145, w133_2147, w133_2149, w133_2152, w133_2154, w133_2157, w133_2159, w133_2161, w133_2162, w133_2163, w133_2164, w133_2165, w133_2168, w133_2169, w133_2171, w133_2173, w133_2174, w133_2177, w133_2180, w133_2181, w133_2182, w133_2184, w133_2187, w133_2188, nI_ge hee (show c 3 < 2 ^ 31 by omega), ks_0, c1, x1, x2, x3, x4, ↓reduceIte, Option.toList_some, Option.toList_none, List.cons_append, List.nil_append]
      refine l_un hee m2 (fun τ2 v21 v22 v23 K2 T2 => ?_) (c 2) 0 τ _ _ (by omega) K1 T1
      simp only [w133_2262, w133_2321, w133_2324, nI_add]
      have h1 := ih (e + 1) τ2 (some (.int (-1))) v21 v22 v23 (by omega) K2 T2
      rw [coR, tkR, mnR, lgR, if_neg (by omega), if_neg (by omega), if_neg (by omega), if_neg (by omega)] at h1
      exact h1
    · rw [m1] at c1
      simp only [oI] at c1
      obtain ⟨f1, f2⟩ := hfe
      obtain ⟨f3, f4⟩ := f2 m2
      obtain ⟨d, hd⟩ := Option.ne_none_iff_exists'.mp f3
      have hl : lwN c n (mrN c n e) e = some d := hd
      have hd8 := lwN_lt hl
      have w0 := hK.1.1.1
      have hcs : csN c (n 20) (mrN c n e) d ≤ 792 := csN_lt hK.1.1 m2 (by omega)
      have e0 : ldN c n (mrN c n e) e 0 = some d := by unfold ldN; rw [hl]; rfl
      have e1' : ldN c n (mrN c n e) e 1 = some (csN c (n 20) (mrN c n e) d) := by unfold ldN; rw [hl]; rfl
      have L0 := fun Q => Cq_of (Q := Q) (q_leads (j := 0) K1 m2 hee (by omega))
      have L1 := fun Q => Cq_of (Q := Q) (q_leads (j := 1) K1 m2 hee (by omega))
      rw [e0] at L0
      rw [e1'] at L1
      simp only [oI] at L0 L1
      have hpr : prM c n e (mrN c n e) = csN c (n 20) (mrN c n e) d := by
        unfold prM
        rw [if_pos m2, hl]
      have h1 := ih (e + 1) τ (some (.int (nI (mrN c n e)))) v21 v22 v23 (by omega) K1 T1
      have htk := tk_b (r := mrN c n) (G := c 2) w2 e
      have hbit := nI_bit (a := tkR (c 2) (mrN c n) e) (x := mrN c n e) (by omega) (by omega)
      have hlg : lgR (lenM c n) (c 2) (mrN c n) e ≤ 8 := lgR_le8 (lenM_8 (n := n) hK.1.1) e
      rw [coR, tkR, mnR, lgR, if_pos m2, if_pos m2, if_pos m2, if_pos m2, hpr, hd] at h1
      have x1 : ¬ nI (mrN c n e) < (-1 : Int32) := fun z => by
        rw [Int32.lt_iff_toInt_lt, nI_toInt (by omega), show (-1 : Int32).toInt = -1 from rfl] at z
        omega
      have x2 : ¬ nI (c 2) ≤ nI (mrN c n e) := nI_ge m2 (by omega)
      have x3 : ¬ nI (mrN c n e) < nI 0 := nI_nlt (Nat.zero_le _) (by omega)
      have x4 : nI 0 ≤ nI (mrN c n e) := nI_le (Nat.zero_le _) (by omega)
      have x5 : nI 0 ≤ nI d := nI_le (Nat.zero_le _) (by omega)
      have n01 : ¬ nI 0 = nI 1 := by decide
      by_cases hle : d ≤ lgR (lenM c n) (c 2) (mrN c n) e
      · have y1 : nI d ≤ nI (lgR (lenM c n) (c 2) (mrN c n) e) := nI_le hle (by omega)
        rw [show max (lgR (lenM c n) (c 2) (mrN c n) e) (dO (some d)) = lgR (lenM c n) (c 2) (mrN c n) e from Nat.max_eq_left hle] at h1
        simp only [w133_2126, w133_2128, w133_2131, w133_2132, w133_2134, w133_2137, w133_2139, w133_2141, w133_2142, w133_2145, w133_2147, w133_2149, w133_2152, w133_2154, w133_2157, w133_2159, w133_2161, w133_2162, w133_2163, w133_2164, w133_2165, w133_2168, w133_2169, w133_2171, w133_2173, w133_2174, w133_2177, w133_2180, w133_2181, w133_2182, w133_2184, w133_2265, w133_2267, w133_2268, w133_2270, w133_2271, w133_2272, w133_2274, w133_2277, w133_2279, w133_2280, w133_2282, w133_2284, w133_2285, w133_2288, w133_2289, w133_2291, w133_2292, w133_2294, w133_2296, w133_2297, w133_2300, w133_2302, w133_2305, w133_2306, w133_2308, w133_2310, w133_2311, w133_2314, w133_2317, w133_2319, w133_2321, w133_2324, nI_ge hee (show c 3 < 2 ^ 31 by omega), ks_0, c1, x1, x2, x3, x4, hbit, f4, n01, L0, x5, nI_shl 1 (show mrN c n e < 32 by omega), nI_or, nI_add, L1, y1, ↓reduceIte, Option.toList_some, Option.toList_none, List.cons_append, List.nil_append, Bool.false_eq_true]
        exact h1
      · have y1 : ¬ nI d ≤ nI (lgR (lenM c n) (c 2) (mrN c n) e) := nI_ge (by omega) (by omega)
        rw [show max (lgR (lenM c n) (c 2) (mrN c n) e) (dO (some d)) = d from Nat.max_eq_right (by show _ ≤ d; omega)] at h1
        simp only [w133_2126, w133_2128, w133_2131, w133_2132, w133_2134, w133_2137, w133_2139, w133_2141, w133_2142, w133_2145, w133_2147, w133_2149, w133_2152, w133_2154, w133_2157, w133_2159, w133_2161, w133_2162, w133_2163, w133_2164, w133_2165, w133_2168, w133_2169, w133_2171, w133_2173, w133_2174, w133_2177, w133_2180, w133_2181, w133_2182, w133_2184, w133_2265, w133_2267, w133_2268, w133_2270, w133_2271, w133_2272, w133_2274, w133_2277, w133_2279, w133_2280, w133_2282, w133_2284, w133_2285, w133_2288, w133_2289, w133_2291, w133_2292, w133_2294, w133_2296, w133_2297, w133_2300, w133_2302, w133_2305, w133_2306, w133_2308, w133_2310, w133_2311, w133_2314, w133_2317, w133_2319, w133_2321, w133_2324, nI_ge hee (show c 3 < 2 ^ 31 by omega), ks_0, c1, x1, x2, x3, x4, hbit, f4, n01, L0, x5, nI_shl 1 (show mrN c n e < 32 by omega), nI_or, nI_add, L1, y1, ↓reduceIte, Option.toList_some, Option.toList_none, List.cons_append, List.nil_append, Bool.false_eq_true]
        exact h1
end LW9
