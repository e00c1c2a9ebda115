/-! the law: turns from wherever -/
section LWP
variable {c : Nat → Nat} {x : Option Nat}
theorem ie_sub {r r' : Nat} (hr : r < 256) (hs : ∀ i, r'.testBit i = true → r.testBit i = true) (h : isE x r = true) : isE x r' = true := by
  have hr' : r' < 256 := by
    refine Nat.lt_of_not_le (fun hg => ?_)
    obtain ⟨i, hi, hb⟩ := Nat.exists_ge_and_testBit_of_ge_two_pow (n := 8) (x := r') (by omega)
    have := hs i hb
    rw [tb_lt (n := 8) (by omega) hi] at this
    cases this
  unfold isE at h ⊢
  cases x with
  | none =>
    simp only [Bool.or_eq_true, decide_eq_true_eq] at h ⊢
    rw [pc_cnt _ hr] at h
    rw [pc_cnt _ hr']
    have h1 := cnt_mono hs 8
    rcases h with h | h
    · left
      refine Nat.eq_of_testBit_eq fun i => ?_
      rw [Nat.zero_testBit]
      cases hb : r'.testBit i with
      | false => rfl
      | true => have := hs i hb; rw [h, Nat.zero_testBit] at this; cases this
    · rcases Nat.lt_or_ge (cnt r' 8) 1 with z | z
      · left
        have : pcN r' = 0 := by rw [pc_cnt _ hr']; omega
        exact (by decide +kernel : ∀ s, s < 256 → pcN s = 0 → s = 0) r' hr' this
      · right; omega
  | some y =>
    simp only [Bool.or_eq_true, decide_eq_true_eq] at h ⊢
    have key : ∀ i, r'.testBit i = true → i = y := by
      intro i hi
      have := hs i hi
      rcases h with h | h
      · rw [h, Nat.zero_testBit] at this; cases this
      · rw [h, tb_shl1, decide_eq_true_eq] at this; exact this.symm
    by_cases hy : r'.testBit y = true
    · right
      refine Nat.eq_of_testBit_eq fun i => ?_
      rw [tb_shl1]
      by_cases e : y = i
      · subst e; rw [hy]; simp
      · rw [decide_eq_false e]
        cases hb : r'.testBit i with
        | false => rfl
        | true => exact absurd (key i hb).symm e
    · left
      refine Nat.eq_of_testBit_eq fun i => ?_
      rw [Nat.zero_testBit]
      cases hb : r'.testBit i with
      | false => rfl
      | true => rw [key i hb] at hb; exact absurd hb hy
theorem ie_none {r : Nat} (hr : r < 256) {y : Nat} (hy : y < 8) (h : isE (some y) r = true) : isE none r = true := by
  unfold isE at h ⊢
  simp only [Bool.or_eq_true, decide_eq_true_eq] at h ⊢
  rcases h with h | h
  · exact Or.inl h
  · right
    rw [h]
    exact (by decide +kernel : ∀ y, y < 8 → pcN (1 <<< y) = 1) y hy
theorem ie_none_c {r : Nat} (hr : r < 256) : isE none r = true ↔ cnt r 8 < 2 := by
  unfold isE
  simp only [Bool.or_eq_true, decide_eq_true_eq]
  rw [← pc_cnt _ hr]
  exact (by decide +kernel : ∀ s, s < 256 → (s = 0 ∨ pcN s = 1 ↔ pcN s < 2)) r hr
theorem ie_some_a {r y : Nat} : isE (some y) r = true ↔ andn r (1 <<< y) = 0 := by
  unfold isE
  simp only [Bool.or_eq_true, decide_eq_true_eq]
  constructor
  · rintro (h | h)
    · rw [h]; refine Nat.eq_of_testBit_eq fun i => ?_
      rw [andn_tb, Nat.zero_testBit]; rfl
    · rw [h]; refine Nat.eq_of_testBit_eq fun i => ?_
      rw [andn_tb, Nat.zero_testBit]; cases (1 <<< y).testBit i <;> rfl
  · intro h
    have key : ∀ i, r.testBit i = true → i = y := by
      intro i hi
      have h1 : (andn r (1 <<< y)).testBit i = false := by rw [h, Nat.zero_testBit]
      rw [andn_tb, hi, tb_shl1, Bool.true_and] at h1
      have : decide (y = i) = true := by cases hd : decide (y = i) with
        | true => rfl
        | false => rw [hd] at h1; cases h1
      exact (of_decide_eq_true this).symm
    by_cases hy : r.testBit y = true
    · right
      refine Nat.eq_of_testBit_eq fun i => ?_
      rw [tb_shl1]
      by_cases e : y = i
      · subst e; rw [hy]; simp
      · rw [decide_eq_false e]
        cases hb : r.testBit i with
        | false => rfl
        | true => exact absurd (key i hb).symm e
    · left
      refine Nat.eq_of_testBit_eq fun i => ?_
      rw [Nat.zero_testBit]
      cases hb : r.testBit i with
      | false => rfl
      | true => rw [key i hb] at hb; exact absurd hb hy
theorem Rw_lt (hw : WC c) {s : Nat} (hs : s < 2 ^ c 0) : ∀ l r, Rw c s l r → r < 2 ^ c 0 := by
  intro l
  induction l with
  | zero => intro r h; exact (show r = s from h) ▸ hs
  | succ l ih =>
    rintro r ⟨q, t, h1, h2, h3⟩
    refine Nat.lt_of_not_le (fun hg => ?_)
    obtain ⟨i, hi, hb⟩ := Nat.exists_ge_and_testBit_of_ge_two_pow hg
    rw [h3] at hb
    obtain ⟨z, e1, e2, e3⟩ := (endsN_tb _).mp hb
    have := hw.2.2.2.2.2.1 (3 * z + t) (by omega)
    omega
/-- the search from a smaller set ends no later -/
theorem wv_sub (hw : WC c) {s s' : Nat} {x' : Option Nat} {u0 u1 : Int32} (hs : s < 2 ^ c 0) (hsub : ∀ i, s'.testBit i = true → s.testBit i = true) (hx : ∀ r, r < 256 → isE x r = true → isE x' r = true) {d : Nat} (hd : d ≤ 9) (hE : ∃ r, Rw c s d r ∧ isE x r = true) (h2 : WvR c x' s' u0 u1) : ∃ d', d' ≤ d ∧ u0 = nI d' := by
  obtain ⟨r, h3, h4⟩ := hE
  obtain ⟨r', h5, h6⟩ := Rw_sub hsub d r h3
  have p8 : 2 ^ c 0 ≤ 2 ^ 8 := Nat.pow_le_pow_right (by decide) hw.1
  have hr := Rw_lt hw hs d r h3
  have h7 := ie_sub (by omega) h6 (hx r (by omega) h4)
  rcases h2 with ⟨d2, f2, e1, e2, e3, e4, e5, e6, e7⟩ | ⟨e1, e2, e3⟩
  · refine ⟨d2, Nat.le_of_not_lt fun hg => ?_, e2⟩
    have := e7 d hg r' h5
    rw [h7] at this
    cases this
  · have := e3 d hd r' h5
    rw [h7] at this
    cases this
theorem wv_0 {s : Nat} {v0 v1 : Int32} (h : WvR c x s v0 v1) : v0 = nI 0 ↔ isE x s = true := by
  rcases h with ⟨d, f, e1, e2, e3, e4, e5, e6, e7⟩ | ⟨e1, e2, e3⟩
  · rw [e2]
    constructor
    · intro z
      have hd : d = 0 := nI_inj (by omega) (by omega) z
      obtain ⟨r, h1, h2⟩ := e6
      rw [hd] at h1
      have h1 : r = s := h1
      rw [← h1]; exact h2
    · intro z
      have : d = 0 := Nat.eq_zero_of_not_pos fun hp => by
        have := e7 0 hp s rfl
        rw [z] at this
        cases this
      rw [this]
  · rw [e1]
    constructor
    · intro z; exact absurd z (by decide)
    · intro z
      have := e3 0 (by omega) s rfl
      rw [z] at this
      cases this
theorem wv_b {s : Nat} {v0 v1 : Int32} (h : WvR c x s v0 v1) : (¬ v0 < -1) ∧ (¬ nI 9 < v0) ∧ (nI 0 < v0 ↔ nI 0 < v1) := by
  rcases h with ⟨d, f, e1, e2, e3, e4, e5, e6, e7⟩ | ⟨e1, e2, e3⟩
  · refine ⟨fun z => ?_, ?_, ?_⟩
    · rw [e2, Int32.lt_iff_toInt_lt, nI_toInt (by omega), show (-1 : Int32).toInt = -1 from rfl] at z
      omega
    · rw [e2]; exact nI_nlt e1 (by omega)
    · rw [e2, e3, Int32.lt_iff_toInt_lt, Int32.lt_iff_toInt_lt, nI_toInt (by omega), nI_toInt (by omega), nI_toInt e5]
      omega
  · rw [e1, e2]
    exact ⟨by decide, by decide, Iff.rfl⟩
theorem less_n {S : Nat} (hS : S < 2 ^ 31) : nI S &&& (nI S - nI 1) = nI (S &&& (S - 1)) := by
  rcases Nat.eq_zero_or_pos S with z | z
  · subst z; decide
  · rw [pk_sub (by omega), nI_and]
end LWP
section LWQ
variable {N : Nat} {xs : Nat → Int32} {σ : dm_G} {Q : Option Value → dm_G → Prop} {g : Nat} {a8 a13 a14 a15 a16 a17 a18 a19 a20 a21 a22 a23 a24 a25 a26 a27 a28 a29 : Option Value} {c n : Nat → Nat} {k : Nat} {p : Nat → Nat → Nat} {q : Nat} {im : Nat → Nat → Nat} {h : Nat} {hs ht : Nat → Nat} {m : Nat} {bg bx : Nat → Nat} {L : Nat} {tx : Nat → Nat} {f : Int32} {s : Nat}
theorem l_w1 {t : Nat} (ht4 : t < 4) (hN : N < 2 ^ 31) (hK : KA c n k p q im h hs ht m bg bx L tx f s σ) (hT : TF c σ) (kk : ∀ S e τ, S < 2 ^ c 0 → e < c 0 → KA c n k p q im h hs ht m bg bx L tx f s τ → TF c τ → Wq (some (N, xs)) 133 2455 [some (.retAddr 0), some (.ref (0 : Nat)), some (.ref (118 : Nat)), some (.ref (119 : Nat)), some (.ref (120 : Nat)), some (.int (nI (c 0))), some (.int (nI (c 2))), some (.int (nI (c 3))), a8, some (.int (nI (n 20))), some (.int (nI (n 21))), some (.int (nI (n 19))), some (.int (nI (n 18))), a13, a14, a15, a16, a17, a18, some (.int (nI t)), some (.int (nI S)), some (.int (nI e)), some (.int (wvF c (some e) 0 S)), some (.int (wvF c none 0 S)), some (.int (nI (S &&& (S - 1)))), a25, a26, a27, a28, a29] [] τ Q) : Wq (some (N, xs)) 133 2363 [some (.retAddr 0), some (.ref (0 : Nat)), some (.ref (118 : Nat)), some (.ref (119 : Nat)), some (.ref (120 : Nat)), some (.int (nI (c 0))), some (.int (nI (c 2))), some (.int (nI (c 3))), a8, some (.int (nI (n 20))), some (.int (nI (n 21))), some (.int (nI (n 19))), some (.int (nI (n 18))), a13, a14, a15, a16, a17, a18, some (.int (nI t)), a20, a21, a22, a23, a24, a25, a26, a27, a28, a29] [] σ Q := by
  have w0 := hK.1.1.1
  have n1 := hT.1
  have p0 : 0 < 2 ^ c 0 := Nat.two_pow_pos _
  have p8 : 2 ^ c 0 ≤ 2 ^ 8 := Nat.pow_le_pow_right (by decide) w0
  have d0 : 0 < 1 <<< c 0 := by rw [Nat.one_shiftLeft]; exact p0
  have d1 : 1 <<< c 0 < 2 ^ 31 := by rw [Nat.one_shiftLeft]; omega
  have hS' := partV_lt (cellV N xs (43 + t)) d0
  have he' := partV_lt (cellV N xs (43 + t) >>> (nI 8 &&& 31)) (d := c 0) (by omega)
  have P1 : ∀ σ Q, Cs (some (N, xs)) 124 [.int (cellV N xs (43 + t)), .int (nI (1 <<< c 0))] σ Q = _ := fun σ Q => q_partC d0 d1
  have P2 : ∀ σ Q, Cs (some (N, xs)) 124 [.int (cellV N xs (43 + t) >>> (nI 8 &&& 31)), .int (nI (c 0))] σ Q = _ := fun σ Q => q_partC (by omega) (by omega)
  generalize partV (cellV N xs (43 + t)) (1 <<< c 0) = S at hS' P1
  generalize partV (cellV N xs (43 + t) >>> (nI 8 &&& 31)) (c 0) = e at he' P2
  have hS : S < 2 ^ c 0 := by rw [Nat.one_shiftLeft] at hS'; exact hS'
  obtain ⟨τ1, e1, K1, k1⟩ := q_fromWherever (g := 0) hK hS he' (by omega)
  obtain ⟨τ2, e2, K2, k2⟩ := q_meet (g := 0) K1 hS (by omega)
  have c1 := fun Q => Cq_of (Q := Q) e1
  have c2 := fun Q => Cq_of (Q := Q) e2
  obtain ⟨b1, b2, -⟩ := wv_b (b_find (x := some e) hK.1.1 hS)
  obtain ⟨b3, b4, -⟩ := wv_b (b_find (x := none) hK.1.1 hS)
  simp only [w133_2363, w133_2364, w133_2366, w133_2368, w133_2369, w133_2372, w133_2373, w133_2375, w133_2376, w133_2379, w133_2381, w133_2382, w133_2384, w133_2386, w133_2387, w133_2390, w133_2392, w133_2393, w133_2395, w133_2398, w133_2400, w133_2401, w133_2403, w133_2405, w133_2406, w133_2409, w133_2411, w133_2412, w133_2414, w133_2415, w133_2418, w133_2420, w133_2422, w133_2424, w133_2425, w133_2426, w133_2427, w133_2429, w133_2431, w133_2432, w133_2435, w133_2437, w133_2439, w133_2442, w133_2444, w133_2445, w133_2448, w133_2450, w133_2452, ks_0, nI_add, q_cellC (show 43 + t < 2 ^ 31 by omega) hN, nI_shl 1 (show c 0 < 32 by omega), P1, P2, c1, c2, less_n (show S < 2 ^ 31 by omega), b1, b2, b3, b4, ↓reduceIte, Option.toList_some, Option.toList_none, List.cons_append, List.nil_append]
  exact kk S e τ2 hS he' K2 (TF_F (TF_F hT k1) k2)
theorem l_w2 {t S e : Nat} (hS : S < 2 ^ c 0) (he : e < c 0) (hK : KA c n k p q im h hs ht m bg bx L tx f s σ) (kk : Wq (some (N, xs)) 133 2512 [some (.retAddr 0), some (.ref (0 : Nat)), some (.ref (118 : Nat)), some (.ref (119 : Nat)), some (.ref (120 : Nat)), some (.int (nI (c 0))), some (.int (nI (c 2))), some (.int (nI (c 3))), a8, some (.int (nI (n 20))), some (.int (nI (n 21))), some (.int (nI (n 19))), some (.int (nI (n 18))), a13, a14, a15, a16, a17, a18, some (.int (nI t)), some (.int (nI S)), some (.int (nI e)), some (.int (wvF c (some e) 0 S)), some (.int (wvF c none 0 S)), some (.int (nI (S &&& (S - 1)))), a25, a26, a27, a28, a29] [] σ Q) : Wq (some (N, xs)) 133 2455 [some (.retAddr 0), some (.ref (0 : Nat)), some (.ref (118 : Nat)), some (.ref (119 : Nat)), some (.ref (120 : Nat)), some (.int (nI (c 0))), some (.int (nI (c 2))), some (.int (nI (c 3))), a8, some (.int (nI (n 20))), some (.int (nI (n 21))), some (.int (nI (n 19))), some (.int (nI (n 18))), a13, a14, a15, a16, a17, a18, some (.int (nI t)), some (.int (nI S)), some (.int (nI e)), some (.int (wvF c (some e) 0 S)), some (.int (wvF c none 0 S)), some (.int (nI (S &&& (S - 1)))), a25, a26, a27, a28, a29] [] σ Q := by
  have w0 := hK.1.1.1
  have p8 : 2 ^ c 0 ≤ 2 ^ 8 := Nat.pow_le_pow_right (by decide) w0
  have a0 := wv_0 (b_find (x := some e) hK.1.1 hS)
  have b0 := wv_0 (b_find (x := none) hK.1.1 hS)
  rw [ie_some_a] at a0
  rw [ie_none_c (by omega)] at b0
  have c8 := cnt_le S 8
  have han : andn S (1 <<< e) < 2 ^ 8 := and_lt (by omega)
  have M1 := fun Q => Cs_of (scr := (some (N, xs))) (Q := Q) (q_many (N := N) (xs := xs) (σ := σ) (s' := S) (by omega))
  have n01 : ¬ nI 0 = nI 1 := by decide
  have A1 : ∀ Q', Wq (some (N, xs)) 133 2485 [some (.retAddr 0), some (.ref (0 : Nat)), some (.ref (118 : Nat)), some (.ref (119 : Nat)), some (.ref (120 : Nat)), some (.int (nI (c 0))), some (.int (nI (c 2))), some (.int (nI (c 3))), a8, some (.int (nI (n 20))), some (.int (nI (n 21))), some (.int (nI (n 19))), some (.int (nI (n 18))), a13, a14, a15, a16, a17, a18, some (.int (nI t)), some (.int (nI S)), some (.int (nI e)), some (.int (wvF c (some e) 0 S)), some (.int (wvF c none 0 S)), some (.int (nI (S &&& (S - 1)))), a25, a26, a27, a28, a29] [] σ Q' → Wq (some (N, xs)) 133 2455 [some (.retAddr 0), some (.ref (0 : Nat)), some (.ref (118 : Nat)), some (.ref (119 : Nat)), some (.ref (120 : Nat)), some (.int (nI (c 0))), some (.int (nI (c 2))), some (.int (nI (c 3))), a8, some (.int (nI (n 20))), some (.int (nI (n 21))), some (.int (nI (n 19))), some (.int (nI (n 18))), a13, a14, a15, a16, a17, a18, some (.int (nI t)), some (.int (nI S)), some (.int (nI e)), some (.int (wvF c (some e) 0 S)), some (.int (wvF c none 0 S)), some (.int (nI (S &&& (S - 1)))), a25, a26, a27, a28, a29] [] σ Q' := by
    intro Q' hk
    by_cases z : wvF c (some e) 0 S = nI 0
    · have y : nI (andn S (1 <<< e)) = nI 0 := by rw [a0.mp z]
      simp only [w133_2455, w133_2457, w133_2460, w133_2461, w133_2464, w133_2465, w133_2467, w133_2468, w133_2470, w133_2471, w133_2472, w133_2473, w133_2474, w133_2477, w133_2478, w133_2481, w133_2482, eq_true z, eq_true y, nI_shl 1 (show e < 32 by omega), nI_andn, ↓reduceIte, Option.toList_some, Option.toList_none, List.cons_append, List.nil_append]
      exact hk
    · have y : ¬ nI (andn S (1 <<< e)) = nI 0 := fun w => z (a0.mpr (nI_inj (by omega) (by omega) w))
      simp only [w133_2455, w133_2457, w133_2460, w133_2461, w133_2464, w133_2465, w133_2467, w133_2468, w133_2470, w133_2471, w133_2472, w133_2473, w133_2474, w133_2477, w133_2478, w133_2481, w133_2482, z, y, nI_shl 1 (show e < 32 by omega), nI_andn, ↓reduceIte, Option.toList_some, Option.toList_none, List.cons_append, List.nil_append]
      exact hk
  refine A1 Q ?_
  by_cases z : wvF c none 0 S = nI 0
  · have y : ¬ nI 2 ≤ nI (cnt S 8) := nI_ge (b0.mp z) (by omega)
    simp only [w133_2485, w133_2487, w133_2490, w133_2491, w133_2494, w133_2495, w133_2497, w133_2500, w133_2501, w133_2504, w133_2505, w133_2508, w133_2509, eq_true z, y, M1, ↓reduceIte, Option.toList_some, Option.toList_none, List.cons_append, List.nil_append]
    exact kk
  · have y : nI 2 ≤ nI (cnt S 8) := nI_le (Nat.le_of_not_lt fun w => z (b0.mpr w)) (by omega)
    simp only [w133_2485, w133_2487, w133_2490, w133_2491, w133_2494, w133_2495, w133_2497, w133_2500, w133_2501, w133_2504, w133_2505, w133_2508, w133_2509, z, y, M1, ↓reduceIte, Option.toList_some, Option.toList_none, List.cons_append, List.nil_append]
    exact kk
theorem l_w3 {t S e : Nat} (hS : S < 2 ^ c 0) (he : e < c 0) (hK : KA c n k p q im h hs ht m bg bx L tx f s σ) (hT : TF c σ) (kk : ∀ τ, KA c n k p q im h hs ht m bg bx L tx f s τ → TF c τ → Wq (some (N, xs)) 133 2555 [some (.retAddr 0), some (.ref (0 : Nat)), some (.ref (118 : Nat)), some (.ref (119 : Nat)), some (.ref (120 : Nat)), some (.int (nI (c 0))), some (.int (nI (c 2))), some (.int (nI (c 3))), a8, some (.int (nI (n 20))), some (.int (nI (n 21))), some (.int (nI (n 19))), some (.int (nI (n 18))), a13, a14, a15, a16, a17, a18, some (.int (nI t)), some (.int (nI S)), some (.int (nI e)), some (.int (wvF c (some e) 0 S)), some (.int (wvF c none 0 S)), some (.int (nI (S &&& (S - 1)))), a25, a26, a27, a28, a29] [] τ Q) : Wq (some (N, xs)) 133 2512 [some (.retAddr 0), some (.ref (0 : Nat)), some (.ref (118 : Nat)), some (.ref (119 : Nat)), some (.ref (120 : Nat)), some (.int (nI (c 0))), some (.int (nI (c 2))), some (.int (nI (c 3))), a8, some (.int (nI (n 20))), some (.int (nI (n 21))), some (.int (nI (n 19))), some (.int (nI (n 18))), a13, a14, a15, a16, a17, a18, some (.int (nI t)), some (.int (nI S)), some (.int (nI e)), some (.int (wvF c (some e) 0 S)), some (.int (wvF c none 0 S)), some (.int (nI (S &&& (S - 1)))), a25, a26, a27, a28, a29] [] σ Q := by
  have w0 := hK.1.1.1
  have F1 := b_find (x := some e) hK.1.1 hS
  have hle : S &&& (S - 1) < 2 ^ c 0 := Nat.lt_of_le_of_lt Nat.and_le_left hS
  have hsub : ∀ i, (S &&& (S - 1)).testBit i = true → S.testBit i = true := fun i hi => by
    rw [Nat.testBit_and, Bool.and_eq_true] at hi
    exact hi.1
  rcases id F1 with ⟨d, f', e1, e2, e3, e4, e5, e6, e7⟩ | ⟨e1, e2, e3⟩
  · obtain ⟨d2, i2, j2⟩ := wv_sub (x' := none) (s' := S) hK.1.1 hS (fun i h => h) (fun r hr h => ie_none hr (by omega) h) e1 e6 (b_find (x := none) hK.1.1 hS)
    obtain ⟨d3, i3, j3⟩ := wv_sub (x' := some e) (s' := S &&& (S - 1)) hK.1.1 hS hsub (fun r hr h => h) e1 e6 (b_find (x := some e) hK.1.1 hle)
    obtain ⟨τ1, q1, K1, k1⟩ := q_fromWherever (g := 0) hK hle he (by omega)
    obtain ⟨τ2, q2, K2, k2⟩ := q_fromWherever (g := 0) K1 hle he (by omega)
    have c1 := fun Q => Cq_of (Q := Q) q1
    have c2 := fun Q => Cq_of (Q := Q) q2
    have x1 : ¬ wvF c (some e) 0 S < nI 0 := by rw [e2]; exact nI_nlt (Nat.zero_le _) (by omega)
    have x2 : ¬ wvF c none 0 S < nI 0 := by rw [j2]; exact nI_nlt (Nat.zero_le _) (by omega)
    have x3 : ¬ wvF c (some e) 0 S < wvF c none 0 S := by rw [e2, j2]; exact nI_nlt i2 (by omega)
    have x4 : ¬ wvF c (some e) 0 S < wvF c (some e) 0 (S &&& (S - 1)) := by rw [e2, j3]; exact nI_nlt i3 (by omega)
    have x5 : ¬ wvF c (some e) 0 (S &&& (S - 1)) < nI 0 := by rw [j3]; exact nI_nlt (Nat.zero_le _) (by omega)
    simp only [w133_2512, w133_2514, w133_2517, w133_2519, w133_2522, w133_2524, w133_2526, w133_2529, w133_2530, w133_2532, w133_2534, w133_2535, w133_2538, w133_2540, w133_2543, w133_2544, w133_2546, w133_2548, w133_2549, w133_2552, x1, x2, x3, x4, x5, ks_0, c1, c2, ↓reduceIte, Option.toList_some, Option.toList_none, List.cons_append, List.nil_append]
    exact kk τ2 K2 (TF_F (TF_F hT k1) k2)
  · have x1 : wvF c (some e) 0 S < nI 0 := by rw [e1]; decide
    simp only [w133_2512, w133_2514, x1, ↓reduceIte, Option.toList_some, Option.toList_none, List.cons_append, List.nil_append]
    exact kk σ hK hT
theorem l_w4 {t S e : Nat} (hS : S < 2 ^ c 0) (he : e < c 0) (hK : KA c n k p q im h hs ht m bg bx L tx f s σ) (hT : TF c σ) (kk : ∀ τ, KA c n k p q im h hs ht m bg bx L tx f s τ → TF c τ → Wq (some (N, xs)) 133 2582 [some (.retAddr 0), some (.ref (0 : Nat)), some (.ref (118 : Nat)), some (.ref (119 : Nat)), some (.ref (120 : Nat)), some (.int (nI (c 0))), some (.int (nI (c 2))), some (.int (nI (c 3))), a8, some (.int (nI (n 20))), some (.int (nI (n 21))), some (.int (nI (n 19))), some (.int (nI (n 18))), a13, a14, a15, a16, a17, a18, some (.int (nI t)), some (.int (nI S)), some (.int (nI e)), some (.int (wvF c (some e) 0 S)), some (.int (wvF c none 0 S)), some (.int (nI (S &&& (S - 1)))), a25, a26, a27, a28, a29] [] τ Q) : Wq (some (N, xs)) 133 2555 [some (.retAddr 0), some (.ref (0 : Nat)), some (.ref (118 : Nat)), some (.ref (119 : Nat)), some (.ref (120 : Nat)), some (.int (nI (c 0))), some (.int (nI (c 2))), some (.int (nI (c 3))), a8, some (.int (nI (n 20))), some (.int (nI (n 21))), some (.int (nI (n 19))), some (.int (nI (n 18))), a13, a14, a15, a16, a17, a18, some (.int (nI t)), some (.int (nI S)), some (.int (nI e)), some (.int (wvF c (some e) 0 S)), some (.int (wvF c none 0 S)), some (.int (nI (S &&& (S - 1)))), a25, a26, a27, a28, a29] [] σ Q := by
  have w0 := hK.1.1.1
  have F1 := b_find (x := none) hK.1.1 hS
  have hle : S &&& (S - 1) < 2 ^ c 0 := Nat.lt_of_le_of_lt Nat.and_le_left hS
  have hsub : ∀ i, (S &&& (S - 1)).testBit i = true → S.testBit i = true := fun i hi => by
    rw [Nat.testBit_and, Bool.and_eq_true] at hi
    exact hi.1
  rcases id F1 with ⟨d, f', e1, e2, e3, e4, e5, e6, e7⟩ | ⟨e1, e2, e3⟩
  · obtain ⟨d3, i3, j3⟩ := wv_sub (x' := none) (s' := S &&& (S - 1)) hK.1.1 hS hsub (fun r hr h => h) e1 e6 (b_find (x := none) hK.1.1 hle)
    obtain ⟨τ1, q1, K1, k1⟩ := q_meet (g := 0) hK hle (by omega)
    obtain ⟨τ2, q2, K2, k2⟩ := q_meet (g := 0) K1 hle (by omega)
    have c1 := fun Q => Cq_of (Q := Q) q1
    have c2 := fun Q => Cq_of (Q := Q) q2
    have x1 : ¬ wvF c none 0 S < nI 0 := by rw [e2]; exact nI_nlt (Nat.zero_le _) (by omega)
    have x4 : ¬ wvF c none 0 S < wvF c none 0 (S &&& (S - 1)) := by rw [e2, j3]; exact nI_nlt i3 (by omega)
    have x5 : ¬ wvF c none 0 (S &&& (S - 1)) < nI 0 := by rw [j3]; exact nI_nlt (Nat.zero_le _) (by omega)
    simp only [w133_2555, w133_2557, w133_2560, w133_2561, w133_2563, w133_2564, w133_2567, w133_2570, w133_2571, w133_2573, w133_2574, w133_2577, w133_2579, x1, x4, x5, ks_0, c1, c2, ↓reduceIte, Option.toList_some, Option.toList_none, List.cons_append, List.nil_append]
    exact kk τ2 K2 (TF_F (TF_F hT k1) k2)
  · have x1 : wvF c none 0 S < nI 0 := by rw [e1]; decide
    simp only [w133_2555, w133_2557, x1, ↓reduceIte, Option.toList_some, Option.toList_none, List.cons_append, List.nil_append]
    exact kk σ hK hT
theorem l_w5 {t S e : Nat} (hS : S < 2 ^ c 0) (he : e < c 0) (hK : KA c n k p q im h hs ht m bg bx L tx f s σ) (hT : TF c σ) (kk : ∀ τ, KA c n k p q im h hs ht m bg bx L tx f s τ → TF c τ → Wq (some (N, xs)) 133 2642 [some (.retAddr 0), some (.ref (0 : Nat)), some (.ref (118 : Nat)), some (.ref (119 : Nat)), some (.ref (120 : Nat)), some (.int (nI (c 0))), some (.int (nI (c 2))), some (.int (nI (c 3))), a8, some (.int (nI (n 20))), some (.int (nI (n 21))), some (.int (nI (n 19))), some (.int (nI (n 18))), a13, a14, a15, a16, a17, a18, some (.int (nI t)), some (.int (nI S)), some (.int (nI e)), some (.int (wvF c (some e) 0 S)), some (.int (wvF c none 0 S)), some (.int (nI (S &&& (S - 1)))), a25, a26, a27, a28, a29] [] τ Q) : Wq (some (N, xs)) 133 2582 [some (.retAddr 0), some (.ref (0 : Nat)), some (.ref (118 : Nat)), some (.ref (119 : Nat)), some (.ref (120 : Nat)), some (.int (nI (c 0))), some (.int (nI (c 2))), some (.int (nI (c 3))), a8, some (.int (nI (n 20))), some (.int (nI (n 21))), some (.int (nI (n 19))), some (.int (nI (n 18))), a13, a14, a15, a16, a17, a18, some (.int (nI t)), some (.int (nI S)), some (.int (nI e)), some (.int (wvF c (some e) 0 S)), some (.int (wvF c none 0 S)), some (.int (nI (S &&& (S - 1)))), a25, a26, a27, a28, a29] [] σ Q := by
  have w0 := hK.1.1.1
  obtain ⟨-, -, F1⟩ := wv_b (b_find (x := some e) hK.1.1 hS)
  obtain ⟨-, -, F2⟩ := wv_b (b_find (x := none) hK.1.1 hS)
  obtain ⟨τ1, q1, K1, k1⟩ := q_fromWherever (g := 1) hK hS he (by omega)
  obtain ⟨τ2, q2, K2, k2⟩ := q_meet (g := 1) K1 hS (by omega)
  have c1 := fun Q => Cq_of (Q := Q) q1
  have c2 := fun Q => Cq_of (Q := Q) q2
  have n01 : ¬ nI 0 = nI 1 := by decide
  have A1 : ∀ Q', Wq (some (N, xs)) 133 2612 [some (.retAddr 0), some (.ref (0 : Nat)), some (.ref (118 : Nat)), some (.ref (119 : Nat)), some (.ref (120 : Nat)), some (.int (nI (c 0))), some (.int (nI (c 2))), some (.int (nI (c 3))), a8, some (.int (nI (n 20))), some (.int (nI (n 21))), some (.int (nI (n 19))), some (.int (nI (n 18))), a13, a14, a15, a16, a17, a18, some (.int (nI t)), some (.int (nI S)), some (.int (nI e)), some (.int (wvF c (some e) 0 S)), some (.int (wvF c none 0 S)), some (.int (nI (S &&& (S - 1)))), a25, a26, a27, a28, a29] [] τ1 Q' → Wq (some (N, xs)) 133 2582 [some (.retAddr 0), some (.ref (0 : Nat)), some (.ref (118 : Nat)), some (.ref (119 : Nat)), some (.ref (120 : Nat)), some (.int (nI (c 0))), some (.int (nI (c 2))), some (.int (nI (c 3))), a8, some (.int (nI (n 20))), some (.int (nI (n 21))), some (.int (nI (n 19))), some (.int (nI (n 18))), a13, a14, a15, a16, a17, a18, some (.int (nI t)), some (.int (nI S)), some (.int (nI e)), some (.int (wvF c (some e) 0 S)), some (.int (wvF c none 0 S)), some (.int (nI (S &&& (S - 1)))), a25, a26, a27, a28, a29] [] σ Q' := by
    intro Q' hk
    by_cases z : nI 0 < wvF c (some e) 0 S
    · simp only [w133_2582, w133_2584, w133_2587, w133_2588, w133_2591, w133_2592, w133_2593, w133_2595, w133_2597, w133_2598, w133_2601, w133_2604, w133_2605, w133_2608, w133_2609, z, F1.mp z, ks_0, c1, ↓reduceIte, Option.toList_some, Option.toList_none, List.cons_append, List.nil_append]
      exact hk
    · have y : ¬ nI 0 < wvF c (some e) 1 S := fun w => z (F1.mpr w)
      simp only [w133_2582, w133_2584, w133_2587, w133_2588, w133_2591, w133_2592, w133_2593, w133_2595, w133_2597, w133_2598, w133_2601, w133_2604, w133_2605, w133_2608, w133_2609, z, y, ks_0, c1, ↓reduceIte, Option.toList_some, Option.toList_none, List.cons_append, List.nil_append]
      exact hk
  refine A1 Q ?_
  have h1 := kk τ2 K2 (TF_F (TF_F hT k1) k2)
  by_cases z : nI 0 < wvF c none 0 S
  · simp only [w133_2612, w133_2614, w133_2617, w133_2618, w133_2621, w133_2622, w133_2623, w133_2625, w133_2626, w133_2629, w133_2632, w133_2633, w133_2636, w133_2637, z, F2.mp z, ks_0, c2, ↓reduceIte, Option.toList_some, Option.toList_none, List.cons_append, List.nil_append]
    exact h1
  · have y : ¬ nI 0 < wvF c none 1 S := fun w => z (F2.mpr w)
    simp only [w133_2612, w133_2614, w133_2617, w133_2618, w133_2621, w133_2622, w133_2623, w133_2625, w133_2626, w133_2629, w133_2632, w133_2633, w133_2636, w133_2637, z, y, ks_0, c2, ↓reduceIte, Option.toList_some, Option.toList_none, List.cons_append, List.nil_append]
    exact h1
/-- the four turns -/
theorem l_w (hN : N < 2 ^ 31) (kk : ∀ τ v19 v20 v21 v22 v23 v24, KA c n k p q im h hs ht m bg bx L tx f s τ → TF c τ → Wq (some (N, xs)) 133 2648 [some (.retAddr 0), some (.ref (0 : Nat)), some (.ref (118 : Nat)), some (.ref (119 : Nat)), some (.ref (120 : Nat)), some (.int (nI (c 0))), some (.int (nI (c 2))), some (.int (nI (c 3))), a8, some (.int (nI (n 20))), some (.int (nI (n 21))), some (.int (nI (n 19))), some (.int (nI (n 18))), a13, a14, a15, a16, a17, a18, v19, v20, v21, v22, v23, v24, a25, a26, a27, a28, a29] [] τ Q) : ∀ (f' t : Nat) (σ : dm_G) (v20 v21 v22 v23 v24 : Option Value), t + f' = 4 → KA c n k p q im h hs ht m bg bx L tx f s σ → TF c σ → Wq (some (N, xs)) 133 2357 [some (.retAddr 0), some (.ref (0 : Nat)), some (.ref (118 : Nat)), some (.ref (119 : Nat)), some (.ref (120 : Nat)), some (.int (nI (c 0))), some (.int (nI (c 2))), some (.int (nI (c 3))), a8, some (.int (nI (n 20))), some (.int (nI (n 21))), some (.int (nI (n 19))), some (.int (nI (n 18))), a13, a14, a15, a16, a17, a18, some (.int (nI t)), v20, v21, v22, v23, v24, a25, a26, a27, a28, a29] [] σ Q := by
  intro f'
  induction f' with
  | zero =>
    intro t σ v20 v21 v22 v23 v24 htt hK hT
    obtain rfl : t = 4 := by omega
    rw [w133_2357]
    simp only [w133_2359, w133_2360, nI_le (Nat.le_refl 4) (show 4 < 2 ^ 31 by omega), ↓reduceIte, Option.toList_some, Option.toList_none, List.cons_append, List.nil_append]
    exact kk σ _ _ _ _ _ _ hK hT
  | succ f' ih =>
    intro t σ v20 v21 v22 v23 v24 htt hK hT
    rw [w133_2357]
    simp only [w133_2359, w133_2360, nI_ge (show t < 4 by omega) (show 4 < 2 ^ 31 by omega), ↓reduceIte, Option.toList_some, Option.toList_none, List.cons_append, List.nil_append]
    refine l_w1 (by omega) hN hK hT (fun S e τ hS he K1 T1 => ?_)
    refine l_w2 hS he K1 ?_
    refine l_w3 hS he K1 T1 (fun τ2 K2 T2 => ?_)
    refine l_w4 hS he K2 T2 (fun τ3 K3 T3 => ?_)
    refine l_w5 hS he K3 T3 (fun τ4 K4 T4 => ?_)
    simp only [w133_2642, w133_2645, nI_add]
    exact ih (t + 1) τ4 _ _ _ _ _ (by omega) K4 T4
end LWQ
