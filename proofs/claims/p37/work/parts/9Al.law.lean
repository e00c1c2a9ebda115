/-! the law: between the loops; writing, clouds -/
section LWL
variable {N : Nat} {xs : Nat → Int32} {σ : dm_G} {Q : Option Value → dm_G → Prop} {a8 a13 a14 a15 a16 a17 a18 a19 a20 a21 a22 a23 a24 a25 a26 a27 a28 a29 : Option Value} {c n : Nat → Nat} {k : Nat} {p : Nat → Nat → Nat} {q : Nat} {im : Nat → Nat → Nat} {h : Nat} {hs ht : Nat → Nat} {m : Nat} {bg bx : Nat → Nat} {L : Nat} {tx : Nat → Nat} {f : Int32} {s : Nat}
theorem l_k1 {a9 a10 a11 a12 : Option Value} (hK : KA c n k p q im h hs ht m bg bx L tx f s σ) (hT : TF c σ) (kk : ∀ τ, KA c n 0 p (q ||| 1 <<< 1) (fun j => if j = 1 then up1 n 22 s else im j) h hs ht m bg bx L tx f s τ → TF c τ → Wq (some (N, xs)) 133 1473 [some (.retAddr 0), some (.ref (0 : Nat)), some (.ref (118 : Nat)), some (.ref (119 : Nat)), some (.ref (120 : Nat)), some (.int (nI (c 0))), some (.int (nI (c 2))), some (.int (nI (c 3))), a8, some (.int (nI (n 20))), some (.int (nI (n 21))), some (.int (nI (n 19))), some (.int (nI (n 18))), some (.int (nI 0)), a14, a15, a16, a17, a18, a19, a20, a21, a22, a23, a24, a25, a26, a27, a28, a29] [] τ Q) : Wq (some (N, xs)) 133 1419 [some (.retAddr 0), some (.ref (0 : Nat)), some (.ref (118 : Nat)), some (.ref (119 : Nat)), some (.ref (120 : Nat)), some (.int (nI (c 0))), some (.int (nI (c 2))), some (.int (nI (c 3))), a8, a9, a10, a11, a12, a13, a14, a15, a16, a17, a18, a19, a20, a21, a22, a23, a24, a25, a26, a27, a28, a29] [] σ Q := by
  have t4 := fun Q => Cq_of (Q := Q) (q_told (j := 4) hK (by omega))
  have t6 := fun Q => Cq_of (Q := Q) (q_told (j := 6) hK (by omega))
  have t7 := fun Q => Cq_of (Q := Q) (q_told (j := 7) hK (by omega))
  have t8 := fun Q => Cq_of (Q := Q) (q_told (j := 8) hK (by omega))
  simp only [tdN] at t4 t6 t7 t8
  obtain ⟨τ, e1, K1, k1⟩ := q_keep (i := 1) hK (by omega)
  have c1 := fun Q => Cq_of (Q := Q) e1
  have u1 := fun Q => Cq_of (Q := Q) (q_undo0 K1)
  simp only [w133_1419, w133_1420, w133_1421, w133_1424, w133_1426, w133_1427, w133_1429, w133_1432, w133_1434, w133_1435, w133_1437, w133_1440, w133_1442, w133_1443, w133_1445, w133_1448, w133_1450, w133_1451, w133_1452, w133_1455, w133_1456, w133_1459, w133_1460, w133_1463, w133_1465, w133_1468, w133_1469, w133_1470, w133_1471, ks_0, t4, t6, t7, t8, c1, u1, ↓reduceIte, Option.toList_some, Option.toList_none, List.cons_append, List.nil_append]
  exact kk τ K1 (TF_F hT k1)
theorem l_mm (hK : KA c n k p q im h hs ht m bg bx L tx f s σ) (hT : TF c σ) (kk : ∀ τ v13 v14 v15 v16 v17 v18 v20 v21 v22 v23 v24, KA c n k p q im h hs ht m bg bx L tx f s τ → TF c τ → Wq (some (N, xs)) 133 2357 [some (.retAddr 0), some (.ref (0 : Nat)), some (.ref (118 : Nat)), some (.ref (119 : Nat)), some (.ref (120 : Nat)), some (.int (nI (c 0))), some (.int (nI (c 2))), some (.int (nI (c 3))), a8, some (.int (nI (n 20))), some (.int (nI (n 21))), some (.int (nI (n 19))), some (.int (nI (n 18))), v13, v14, v15, v16, v17, v18, some (.int (nI 0)), v20, v21, v22, v23, v24, a25, a26, a27, a28, a29] [] τ Q) : Wq (some (N, xs)) 133 2094 [some (.retAddr 0), some (.ref (0 : Nat)), some (.ref (118 : Nat)), some (.ref (119 : Nat)), some (.ref (120 : Nat)), some (.int (nI (c 0))), some (.int (nI (c 2))), some (.int (nI (c 3))), a8, some (.int (nI (n 20))), some (.int (nI (n 21))), some (.int (nI (n 19))), some (.int (nI (n 18))), a13, a14, a15, a16, a17, a18, a19, a20, a21, a22, a23, a24, a25, a26, a27, a28, a29] [] σ Q := by
  obtain ⟨τ1, e1, K1, k1⟩ := q_match1 hK
  obtain ⟨τ2, e2, K2, k2⟩ := q_match2 K1
  have c1 := fun Q => Cq_of (Q := Q) e1
  have c2 := fun Q => Cq_of (Q := Q) e2
  simp only [w133_2094, w133_2095, w133_2096, w133_2099, w133_2101, w133_2102, w133_2104, w133_2107, w133_2109, w133_2110, w133_2112, w133_2113, w133_2115, w133_2116, w133_2118, w133_2119, w133_2121, w133_2122, ks_0, c1, c2, ↓reduceIte, Option.toList_some, Option.toList_none, List.cons_append, List.nil_append]
  refine l_mt (n := n) (c := c) (a16 := some (.int (nI (tkR (c 2) (mrN c n) (c 3))))) (fun τ v20 v21 v22 v23 K3 T3 => ?_) rfl (c 3) 0 τ2 _ _ _ _ (by omega) K2 (TF_F (TF_F hT k1) k2)
  obtain ⟨τ4, e4, K4, k4⟩ := q_match3 K3
  have c4 := fun Q => Cq_of (Q := Q) e4
  simp only [w133_2327, w133_2329, w133_2331, w133_2334, w133_2336, w133_2338, w133_2341, w133_2342, w133_2344, w133_2347, w133_2349, w133_2352, w133_2353, w133_2354, w133_2355, ks_0, c4, ↓reduceIte, Option.toList_some, Option.toList_none, List.cons_append, List.nil_append]
  exact kk τ4 _ _ _ _ _ _ _ _ _ _ _ K4 (TF_F T3 k4)
theorem fnd_no {b : Nat → Bool} : ∀ j k, (∀ i, k ≤ i → i < k + j → b i = false) → fnd b j k = none := by
  intro j
  induction j with
  | zero => intro k _; rfl
  | succ j ih =>
    intro k hk
    rw [fnd, if_neg (by rw [hk k (Nat.le_refl _) (by omega)]; exact Bool.false_ne_true)]
    exact ih (k + 1) (fun i h1 h2 => hk i (by omega) (by omega))
theorem l_b1 (kk : ∀ τ v22 bg bx, KA c n k p q im h hs ht (c 2) bg bx L tx f s τ → TF c τ → Wq (some (N, xs)) 133 2977 [some (.retAddr 0), some (.ref (0 : Nat)), some (.ref (118 : Nat)), some (.ref (119 : Nat)), some (.ref (120 : Nat)), some (.int (nI (c 0))), some (.int (nI (c 2))), some (.int (nI (c 3))), a8, some (.int (nI (n 20))), some (.int (nI (n 21))), some (.int (nI (n 19))), some (.int (nI (n 18))), a13, a14, a15, a16, a17, a18, a19, a20, a21, v22, a23, a24, a25, a26, a27, a28, a29] [] τ Q) : ∀ (f' j : Nat) (bg bx : Nat → Nat) (σ : dm_G), j + f' = c 2 → KA c n k p q im h hs ht j bg bx L tx f s σ → TF c σ → (∀ i, i < j → n (bg i) = bx i) → Wq (some (N, xs)) 133 2934 [some (.retAddr 0), some (.ref (0 : Nat)), some (.ref (118 : Nat)), some (.ref (119 : Nat)), some (.ref (120 : Nat)), some (.int (nI (c 0))), some (.int (nI (c 2))), some (.int (nI (c 3))), a8, some (.int (nI (n 20))), some (.int (nI (n 21))), some (.int (nI (n 19))), some (.int (nI (n 18))), a13, a14, a15, a16, a17, a18, a19, a20, a21, some (.int (nI j)), a23, a24, a25, a26, a27, a28, a29] [] σ Q := by
  intro f'
  induction f' with
  | zero =>
    intro j bg bx σ hj hK hT hb
    have w2 := hK.1.1.2.1
    obtain rfl : j = c 2 := by omega
    rw [w133_2934]
    simp only [w133_2936, w133_2938, nI_le (Nat.le_refl (c 2)) (show c 2 < 2 ^ 31 by omega), ↓reduceIte, Option.toList_some, Option.toList_none, List.cons_append, List.nil_append]
    exact kk σ _ bg bx hK hT
  | succ f' ih =>
    intro j bg bx σ hj hK hT hb
    have w2 := hK.1.1.2.1
    have hjj : j < c 2 := by omega
    have gx := (hK.1.2.1.1 j hjj).1
    have u0 := fun Q => Cq_of (Q := Q) (q_guide (j := 0) hK hjj (by omega))
    simp only [gdN] at u0
    obtain ⟨τ, e1, K1, k1⟩ := q_write (g := j) (e := n j) hK hjj gx (by omega)
    have c1 := fun Q => Cq_of (Q := Q) e1
    have hb' : ∀ i, i < j + 1 → n (up1 bg j j i) = up1 bx j (n j) i := by
      intro i hi
      by_cases z : i = j
      · subst z; rw [up1_eq, up1_eq]
      · rw [up1_ne z, up1_ne z]; exact hb i (by omega)
    have J1 := fun Q => Cq_of (Q := Q) (q_judge K1)
    rw [fnd_no (j + 1) 0 (fun i _ hi => by
      unfold wrN
      exact decide_eq_false (fun w => w (hb' i (by omega))))] at J1
    simp only [oI] at J1
    rw [w133_2934]
    simp only [w133_2936, w133_2938, w133_2941, w133_2942, w133_2944, w133_2945, w133_2947, w133_2948, w133_2951, w133_2954, w133_2956, w133_2957, w133_2958, w133_2961, w133_2962, w133_2965, w133_2966, w133_2969, w133_2970, w133_2971, w133_2974, nI_ge hjj (show c 2 < 2 ^ 31 by omega), ks_0, u0, c1, nI_add, J1, ↓reduceIte, Option.toList_some, Option.toList_none, List.cons_append, List.nil_append]
    exact ih (j + 1) _ _ τ (by omega) K1 (TF_F hT k1) hb'
theorem l_b2 (hK : KA c n k p q im h hs ht (c 2) bg bx L tx f s σ) (hT : TF c σ) (kk : ∀ τ, KA c n k p q im 0 hs ht 0 bg bx L tx f s τ → TF c τ → Wq (some (N, xs)) 133 2998 [some (.retAddr 0), some (.ref (0 : Nat)), some (.ref (118 : Nat)), some (.ref (119 : Nat)), some (.ref (120 : Nat)), some (.int (nI (c 0))), some (.int (nI (c 2))), some (.int (nI (c 3))), a8, some (.int (nI (n 20))), some (.int (nI (n 21))), some (.int (nI (n 19))), some (.int (nI (n 18))), a13, a14, a15, a16, a17, a18, a19, a20, a21, a22, a23, a24, a25, a26, a27, a28, a29] [] τ Q) : Wq (some (N, xs)) 133 2977 [some (.retAddr 0), some (.ref (0 : Nat)), some (.ref (118 : Nat)), some (.ref (119 : Nat)), some (.ref (120 : Nat)), some (.int (nI (c 0))), some (.int (nI (c 2))), some (.int (nI (c 3))), a8, some (.int (nI (n 20))), some (.int (nI (n 21))), some (.int (nI (n 19))), some (.int (nI (n 18))), a13, a14, a15, a16, a17, a18, a19, a20, a21, a22, a23, a24, a25, a26, a27, a28, a29] [] σ Q := by
  obtain ⟨τ, e1, K1, k1⟩ := q_tear hK
  have c1 := fun Q => Cq_of (Q := Q) e1
  have t10 := fun Q => Cq_of (Q := Q) (q_told (j := 10) K1 (by omega))
  simp only [tdN] at t10
  rw [show nI 0 - nI 1 = -1 by decide] at t10
  simp only [w133_2977, w133_2978, w133_2981, w133_2983, w133_2986, w133_2987, w133_2989, w133_2992, w133_2993, ks_0, c1, t10, ↓reduceIte, Option.toList_some, Option.toList_none, List.cons_append, List.nil_append]
  exact kk τ K1 (TF_F hT k1)
theorem l_c1 (hK : KA c n k p q im h hs ht m bg bx L tx f s σ) {q' : Nat} (hq : q' ≤ 100) (kk : ∀ v22 v24 v25, Wq (some (N, xs)) 133 3084 [some (.retAddr 0), some (.ref (0 : Nat)), some (.ref (118 : Nat)), some (.ref (119 : Nat)), some (.ref (120 : Nat)), some (.int (nI (c 0))), some (.int (nI (c 2))), some (.int (nI (c 3))), a8, some (.int (nI (n 20))), some (.int (nI (n 21))), some (.int (nI (n 19))), some (.int (nI (n 18))), a13, a14, a15, a16, a17, a18, a19, a20, a21, v22, some (.int (nI q')), v24, v25, a26, a27, a28, a29] [] σ Q) : ∀ (f' i u : Nat) (v25 : Option Value), i + f' = 13 → clV q' (5 * i) 1000000000 ≤ u → u ≤ 1000000000 → Wq (some (N, xs)) 133 3018 [some (.retAddr 0), some (.ref (0 : Nat)), some (.ref (118 : Nat)), some (.ref (119 : Nat)), some (.ref (120 : Nat)), some (.int (nI (c 0))), some (.int (nI (c 2))), some (.int (nI (c 3))), a8, some (.int (nI (n 20))), some (.int (nI (n 21))), some (.int (nI (n 19))), some (.int (nI (n 18))), a13, a14, a15, a16, a17, a18, a19, a20, a21, some (.int (nI u)), some (.int (nI q')), some (.int (nI (5 * i))), v25, a26, a27, a28, a29] [] σ Q := by
  intro f'
  induction f' with
  | zero =>
    intro i u v25 hi h1 h2
    obtain rfl : i = 13 := by omega
    rw [w133_3018]
    simp only [w133_3020, w133_3022, nI_le (show 61 ≤ 5 * 13 by omega) (show 5 * 13 < 2 ^ 31 by omega), ↓reduceIte, Option.toList_some, Option.toList_none, List.cons_append, List.nil_append]
    exact kk _ _ _
  | succ f' ih =>
    intro i u v25 hi h1 h2
    have D1 := fun Q => Cq_of (Q := Q) (q_clouds (d := 5 * i) (q' := q') hK (by omega) (by omega))
    have D2 := fun Q => Cq_of (Q := Q) (q_clouds (d := 5 * i) (q' := 100) hK (by omega) (by omega))
    obtain ⟨v1, v2⟩ := pt_clouds (q := q') (d := 5 * i) hq
    obtain ⟨v3, -⟩ := pt_clouds (q := 100) (d := 5 * i) (by omega)
    rw [v1] at D1
    rw [v3, clV_100] at D2
    have h3 : clV q' (5 * (i + 1)) 1000000000 ≤ clV q' (5 * i) 1000000000 := by
      rw [show 5 * (i + 1) = 5 * i + 5 by omega, clV_add]
      exact clV_le hq _ _
    have hrec := ih (i + 1) (clV q' (5 * i) 1000000000) (some (.int (nI (clV q' (5 * i) 1000000000)))) (by omega) h3 v2
    rw [show 5 * (i + 1) = 5 * i + 5 by omega] at hrec
    have x1 : ¬ nI (clV q' (5 * i) 1000000000) < nI 0 := nI_nlt (Nat.zero_le _) (by omega)
    have x2 : ¬ nI u < nI (clV q' (5 * i) 1000000000) := nI_nlt h1 (by omega)
    have x0 : ¬ nI 61 ≤ nI (5 * i) := nI_ge (by omega) (by omega)
    rw [w133_3018]
    by_cases z : i = 0
    · subst z
      have e0 : clV q' (5 * 0) 1000000000 = 1000000000 := rfl
      rw [e0] at D1 x1 x2 hrec
      simp only [w133_3020, w133_3022, w133_3025, w133_3026, w133_3028, w133_3030, w133_3033, w133_3035, w133_3037, w133_3040, w133_3042, w133_3044, w133_3047, w133_3049, w133_3052, w133_3054, w133_3056, w133_3059, w133_3060, w133_3062, w133_3064, w133_3067, w133_3069, w133_3072, w133_3073, w133_3074, w133_3076, w133_3078, w133_3081, x0, ks_0, D1, D2, x1, x2, nI_add, ↓reduceIte, Option.toList_some, Option.toList_none, List.cons_append, List.nil_append]
      exact hrec
    · have x4 : ¬ nI (5 * i) = nI 0 := fun w => absurd (nI_inj (by omega) (by omega) w) (by omega)
      simp only [w133_3020, w133_3022, w133_3025, w133_3026, w133_3028, w133_3030, w133_3033, w133_3035, w133_3037, w133_3040, w133_3042, w133_3044, w133_3047, w133_3049, w133_3052, w133_3054, w133_3056, w133_3059, w133_3060, w133_3062, w133_3064, w133_3067, w133_3069, w133_3072, w133_3073, w133_3074, w133_3076, w133_3078, w133_3081, x0, x4, ks_0, D1, D2, x1, x2, nI_add, ↓reduceIte, Option.toList_some, Option.toList_none, List.cons_append, List.nil_append]
      exact hrec
end LWL
