/-! the law: what is heard -/
section LWH
variable {N : Nat} {xs : Nat → Int32} {σ : dm_G} {Q : Option Value → dm_G → Prop} {a8 a13 a14 a15 a16 a17 a18 a19 a20 a21 a22 a23 a24 a25 a26 a27 a28 a29 : Option Value} {c n : Nat → Nat} {k : Nat} {p : Nat → Nat → Nat} {q : Nat} {im : Nat → Nat → Nat} {h : Nat} {hs ht : Nat → Nat} {m : Nat} {bg bx : Nat → Nat} {L : Nat} {tx : Nat → Nat} {f : Int32} {s : Nat}
theorem heN_cg {hs' ht' : Nat → Nat} {j : Nat} (h1 : ∀ i, i ≤ j → hs' i = hs i) (h2 : ∀ i, 1 ≤ i → i ≤ j → ht' i = ht i) : ∀ x, heN c hs' ht' j x = heN c hs ht j x := by
  intro x
  induction x with
  | zero => rfl
  | succ x ih => rw [heN, heN, ih, okN_cg j h1 h2, psN_cg j h2]
theorem hr_S {j : Nat} : hrN c hs ht (j + 1) = heN c hs ht j (c 0) := by
  unfold hrN
  rw [if_neg (by omega), Nat.add_sub_cancel]
theorem bg_S {j : Nat} : bgN c hs ht (j + 1) = stN c hs ht j (c 0) := by
  unfold bgN
  rw [if_neg (by omega), Nat.add_sub_cancel]
theorem l_h2 {j w b e : Nat} {v23 : Int32} (hK : KA c n k p q im (j + 1) hs ht m bg bx L tx f s σ) (hj : j < 9) (hb : b < c 0) (hok : okN c hs ht b j = true) (hps : psN c ht b j = w) (hle : cnt (hrN c hs ht (j + 1)) 8 ≤ cnt e 8) (he : e < 2 ^ 31) (he0 : j = 0 → e = 2 ^ c 0 - 1) (hv : v23 < nI 0 ∨ (¬ v23 < nI 0 ∧ cnt (hrN c hs ht (j + 1)) 8 ≠ cnt e 8)) (kk : Wq (some (N, xs)) 133 2676 [some (.retAddr 0), some (.ref (0 : Nat)), some (.ref (118 : Nat)), some (.ref (119 : Nat)), some (.ref (120 : Nat)), some (.int (nI (c 0))), some (.int (nI (c 2))), some (.int (nI (c 3))), a8, some (.int (nI (n 20))), some (.int (nI (n 21))), some (.int (nI (n 19))), some (.int (nI (n 18))), a13, a14, a15, a16, a17, a18, some (.int (nI w)), some (.int (nI b)), some (.int (nI (hrN c hs ht (j + 1)))), some (.int (nI (j + 1))), some (.int v23), a24, some (.int (nI (hrN c hs ht (j + 1)))), a26, a27, a28, a29] [] σ Q) : Wq (some (N, xs)) 133 2781 [some (.retAddr 0), some (.ref (0 : Nat)), some (.ref (118 : Nat)), some (.ref (119 : Nat)), some (.ref (120 : Nat)), some (.int (nI (c 0))), some (.int (nI (c 2))), some (.int (nI (c 3))), a8, some (.int (nI (n 20))), some (.int (nI (n 21))), some (.int (nI (n 19))), some (.int (nI (n 18))), a13, a14, a15, a16, a17, a18, some (.int (nI w)), some (.int (nI b)), some (.int (nI e)), some (.int (nI j)), some (.int v23), a24, some (.int (nI (hrN c hs ht (j + 1)))), a26, a27, a28, a29] [] σ Q := by
  have w0 := hK.1.1.1
  obtain ⟨-, -, -, -, ⟨hh9, hhs, hht⟩, -⟩ := id hK.1
  have p8 : 2 ^ c 0 ≤ 2 ^ 8 := Nat.pow_le_pow_right (by decide) w0
  have t11 := fun Q => Cq_of (Q := Q) (q_told (j := 11) hK (by omega))
  have t10 := fun Q => Cq_of (Q := Q) (q_told (j := 10) hK (by omega))
  have B1 := fun Q => Cq_of (Q := Q) (q_began hK)
  simp only [tdN] at t11 t10
  rw [show nI (j + 1) - nI 1 = nI j by rw [pk_sub (by omega), Nat.add_sub_cancel]] at t10
  have hH : hrN c hs ht (j + 1) < 2 ^ c 0 := by rw [hr_S]; exact heN_lt hK.1.1 hht _ (Nat.le_refl _)
  have hB : bgN c hs ht (j + 1) < 2 ^ c 0 := by rw [bg_S]; exact stN_lt _
  have hbit : (hrN c hs ht (j + 1)).testBit w = true := by rw [hr_S]; exact (he_tb _).mpr ⟨b, hb, hok, hps⟩
  have hbitB : (bgN c hs ht (j + 1)).testBit b = true := by rw [bg_S, stN_tb, hok, decide_eq_true hb]; rfl
  have hw : w < c 0 := hps ▸ psN_lt hK.1.1 hht hb j
  have h1 : 1 ≤ hrN c hs ht (j + 1) := Nat.pos_of_ne_zero fun z => by rw [z, Nat.zero_testBit] at hbit; cases hbit
  have hst : cnt (hrN c hs ht (j + 1)) 8 ≤ cnt (bgN c hs ht (j + 1)) 8 := by rw [hr_S, bg_S]; exact he_st _ w0
  have han : j = 0 → andn (bgN c hs ht (j + 1)) e = 0 := by
    intro z
    rw [he0 z]
    refine Nat.eq_of_testBit_eq fun i => ?_
    rw [andn_tb, Nat.zero_testBit, Nat.testBit_two_pow_sub_one]
    by_cases hi : i < c 0
    · rw [decide_eq_true hi]; simp
    · rw [tb_lt hB (by omega)]; rfl
  generalize hrN c hs ht (j + 1) = H at *
  generalize bgN c hs ht (j + 1) = B at *
  have c8 := cnt_le H 8
  have c8' := cnt_le B 8
  have c8'' := cnt_le e 8
  have M1 := fun Q => Cs_of (scr := (some (N, xs))) (Q := Q) (q_many (N := N) (xs := xs) (σ := σ) (s' := H) (by omega))
  have M2 := fun Q => Cs_of (scr := (some (N, xs))) (Q := Q) (q_many (N := N) (xs := xs) (σ := σ) (s' := B) (by omega))
  have M3 := fun Q => Cs_of (scr := (some (N, xs))) (Q := Q) (q_many (N := N) (xs := xs) (σ := σ) (s' := e) he)
  have x1 : ¬ nI H < nI 1 := nI_nlt h1 (by omega)
  have x2 : ¬ nI (1 <<< c 0) ≤ nI H := by rw [Nat.one_shiftLeft]; exact nI_ge hH (by omega)
  have x3 := nI_bit (a := H) (x := w) (by omega) (by omega)
  have x4 := nI_bit (a := B) (x := b) (by omega) (by omega)
  rw [if_pos hbit] at x3
  rw [if_pos hbitB] at x4
  have x5 : ¬ nI (cnt B 8) < nI (cnt H 8) := nI_nlt hst (by omega)
  have x6 : ¬ nI (cnt e 8) < nI (cnt H 8) := nI_nlt hle (by omega)
  have haL : andn B e < 2 ^ 8 := and_lt (by omega)
  have A1 : ∀ Q', Wq (some (N, xs)) 133 2877 [some (.retAddr 0), some (.ref (0 : Nat)), some (.ref (118 : Nat)), some (.ref (119 : Nat)), some (.ref (120 : Nat)), some (.int (nI (c 0))), some (.int (nI (c 2))), some (.int (nI (c 3))), a8, some (.int (nI (n 20))), some (.int (nI (n 21))), some (.int (nI (n 19))), some (.int (nI (n 18))), a13, a14, a15, a16, a17, a18, some (.int (nI w)), some (.int (nI b)), some (.int (nI e)), some (.int (nI j)), some (.int v23), a24, some (.int (nI H)), a26, a27, a28, a29] [] σ Q' → Wq (some (N, xs)) 133 2781 [some (.retAddr 0), some (.ref (0 : Nat)), some (.ref (118 : Nat)), some (.ref (119 : Nat)), some (.ref (120 : Nat)), some (.int (nI (c 0))), some (.int (nI (c 2))), some (.int (nI (c 3))), a8, some (.int (nI (n 20))), some (.int (nI (n 21))), some (.int (nI (n 19))), some (.int (nI (n 18))), a13, a14, a15, a16, a17, a18, some (.int (nI w)), some (.int (nI b)), some (.int (nI e)), some (.int (nI j)), some (.int v23), a24, some (.int (nI H)), a26, a27, a28, a29] [] σ Q' := by
    intro Q' hk
    rcases hv with hv | ⟨hv, hne⟩
    · simp only [w133_2781, w133_2783, w133_2784, w133_2787, w133_2789, w133_2790, w133_2792, w133_2793, w133_2796, w133_2798, w133_2800, w133_2801, w133_2802, w133_2803, w133_2804, w133_2807, w133_2809, w133_2810, w133_2812, w133_2815, w133_2818, w133_2819, w133_2822, w133_2824, w133_2825, w133_2826, w133_2827, w133_2828, w133_2831, w133_2832, w133_2835, w133_2838, w133_2840, w133_2843, w133_2846, w133_2848, w133_2851, w133_2853, w133_2856, w133_2859, w133_2861, ks_0, x1, x2, x3, x4, x5, x6, t11, B1, M1, M2, M3, hv, nI_shl 1 (show c 0 < 32 by omega), ↓reduceIte, Option.toList_some, Option.toList_none, List.cons_append, List.nil_append]
      exact hk
    · have x7 : ¬ nI (cnt H 8) = nI (cnt e 8) := fun z => hne (nI_inj (by omega) (by omega) z)
      simp only [w133_2781, w133_2783, w133_2784, w133_2787, w133_2789, w133_2790, w133_2792, w133_2793, w133_2796, w133_2798, w133_2800, w133_2801, w133_2802, w133_2803, w133_2804, w133_2807, w133_2809, w133_2810, w133_2812, w133_2815, w133_2818, w133_2819, w133_2822, w133_2824, w133_2825, w133_2826, w133_2827, w133_2828, w133_2831, w133_2832, w133_2835, w133_2838, w133_2840, w133_2843, w133_2846, w133_2848, w133_2851, w133_2853, w133_2856, w133_2859, w133_2861, w133_2864, w133_2866, w133_2869, w133_2871, w133_2874, ks_0, x1, x2, x3, x4, x5, x6, x7, t11, B1, M1, M2, M3, hv, nI_shl 1 (show c 0 < 32 by omega), ↓reduceIte, Option.toList_some, Option.toList_none, List.cons_append, List.nil_append]
      exact hk
  refine A1 Q ?_
  by_cases z : j = 0
  · simp only [w133_2877, w133_2878, w133_2880, w133_2883, w133_2885, w133_2888, w133_2889, w133_2892, w133_2894, w133_2895, w133_2896, w133_2897, w133_2908, w133_2910, w133_2912, w133_2915, ks_0, t10, B1, nI_andn, han z, nI_add, ↓reduceIte, Option.toList_some, Option.toList_none, List.cons_append, List.nil_append]
    exact kk
  · have y : nI 1 ≤ nI j := nI_le (by omega) (by omega)
    by_cases z2 : nI (andn B e) = nI 0
    · simp only [w133_2877, w133_2878, w133_2880, w133_2883, w133_2885, w133_2888, w133_2889, w133_2892, w133_2894, w133_2895, w133_2896, w133_2897, w133_2908, w133_2910, w133_2912, w133_2915, ks_0, t10, B1, nI_andn, eq_true z2, nI_add, ↓reduceIte, Option.toList_some, Option.toList_none, List.cons_append, List.nil_append]
      exact kk
    · simp only [w133_2877, w133_2878, w133_2880, w133_2883, w133_2885, w133_2888, w133_2889, w133_2892, w133_2894, w133_2895, w133_2896, w133_2897, w133_2900, w133_2902, w133_2903, w133_2908, w133_2910, w133_2912, w133_2915, ks_0, t10, B1, nI_andn, z2, y, nI_add, ↓reduceIte, Option.toList_some, Option.toList_none, List.cons_append, List.nil_append]
      exact kk
/-- one sound heard -/
theorem l_h1 {j w b e : Nat} (hN : N < 2 ^ 31) (hK : KA c n k p q im j hs ht m bg bx L tx f s σ) (hT : TF c σ) (hj : j < 9) (hb : b < c 0) (hw : w < c 0) (he : e < 2 ^ 31) (h00 : j = 0 → e = 2 ^ c 0 - 1 ∧ w = b) (h1 : 0 < j → e = hrN c hs ht j ∧ okN c hs ht b (j - 1) = true ∧ psN c ht b (j - 1) = w) (kk : ∀ hs ht τ w' v23 v24 v25, KA c n k p q im (j + 1) hs ht m bg bx L tx f s τ → TF c τ → w' < c 0 → okN c hs ht b j = true → psN c ht b j = w' → Wq (some (N, xs)) 133 2676 [some (.retAddr 0), some (.ref (0 : Nat)), some (.ref (118 : Nat)), some (.ref (119 : Nat)), some (.ref (120 : Nat)), some (.int (nI (c 0))), some (.int (nI (c 2))), some (.int (nI (c 3))), a8, some (.int (nI (n 20))), some (.int (nI (n 21))), some (.int (nI (n 19))), some (.int (nI (n 18))), a13, a14, a15, a16, a17, a18, some (.int (nI w')), some (.int (nI b)), some (.int (nI (hrN c hs ht (j + 1)))), some (.int (nI (j + 1))), v23, v24, v25, a26, a27, a28, a29] [] τ Q) : Wq (some (N, xs)) 133 2676 [some (.retAddr 0), some (.ref (0 : Nat)), some (.ref (118 : Nat)), some (.ref (119 : Nat)), some (.ref (120 : Nat)), some (.int (nI (c 0))), some (.int (nI (c 2))), some (.int (nI (c 3))), a8, some (.int (nI (n 20))), some (.int (nI (n 21))), some (.int (nI (n 19))), some (.int (nI (n 18))), a13, a14, a15, a16, a17, a18, some (.int (nI w)), some (.int (nI b)), some (.int (nI e)), some (.int (nI j)), a23, a24, a25, a26, a27, a28, a29] [] σ Q := by
  have w0 := hK.1.1.1
  obtain ⟨-, -, -, -, ⟨hh9, hhs, hht⟩, -⟩ := id hK.1
  have p8 : 2 ^ c 0 ≤ 2 ^ 8 := Nat.pow_le_pow_right (by decide) w0
  have x9 : ¬ nI 9 ≤ nI j := nI_ge hj (by omega)
  have hm1 : (-1 : Int32) < nI 0 := by decide
  have hm2 : ¬ nI 0 ≤ (-1 : Int32) := by decide
  have C1 := fun σ Q => q_cellC (σ := σ) (Q := Q) (xs := xs) (a := 48) (by omega) hN
  have t3 := partV_lt (cellV N xs 48 >>> (nI (2 * j) &&& 31)) (d := 3) (by omega)
  have P1 : ∀ σ Q, Cs (some (N, xs)) 124 [.int (cellV N xs 48 >>> (nI (2 * j) &&& 31)), .int (nI 3)] σ Q = _ := fun σ Q => q_partC (by omega) (by omega)
  by_cases z : j = 0
  · subst z
    obtain ⟨rfl, rfl⟩ := h00 rfl
    have R0 := fun Q => Cq_of (Q := Q) (q_crossing0 hK hb)
    have h6 : c (5 + w) < 6 := hK.1.1.2.2.2.2.1 w hb
    obtain ⟨τ, e1, K1, k1⟩ := q_begin (e := c (5 + w)) hK h6
    have c1 := fun Q => Cq_of (Q := Q) e1
    rw [w133_2676]
    simp only [w133_2678, w133_2680, w133_2683, w133_2685, w133_2688, w133_2689, w133_2692, w133_2693, w133_2696, w133_2698, w133_2700, w133_2703, w133_2704, w133_2706, w133_2709, w133_2710, w133_2712, w133_2713, w133_2714, w133_2715, w133_2718, w133_2721, w133_2723, w133_2725, w133_2727, w133_2730, w133_2732, w133_2735, w133_2736, w133_2738, w133_2739, w133_2741, w133_2742, w133_2745, w133_2747, w133_2749, w133_2752, w133_2753, w133_2754, w133_2756, w133_2757, w133_2760, w133_2763, w133_2766, w133_2767, w133_2769, w133_2770, w133_2772, w133_2773, w133_2776, w133_2779, ks_0, x9, hm1, hm2, C1, pk_mul, P1, R0, c1, ↓reduceIte, Option.toList_some, Option.toList_none, List.cons_append, List.nil_append]
    refine l_h2 K1 (by omega) hb ?_ rfl ?_ (by omega) (fun _ => rfl) (Or.inl hm1) ?_
    · rw [okN, up1_eq, decide_eq_true rfl]
    · refine cnt_mono (fun i hi => ?_) 8
      rw [hr_S] at hi
      rw [Nat.testBit_two_pow_sub_one]
      refine decide_eq_true (Nat.lt_of_not_le fun hg => ?_)
      rw [tb_lt (heN_lt hK.1.1 hht _ (Nat.le_refl _)) hg] at hi
      cases hi
    · exact kk _ _ τ w _ _ _ K1 (TF_F hT k1) hb (by rw [okN, up1_eq, decide_eq_true rfl]) rfl
  · obtain ⟨l, rfl⟩ : ∃ l, j = l + 1 := ⟨j - 1, by omega⟩
    obtain ⟨rfl, hok, hps⟩ := h1 (by omega)
    rw [Nat.add_sub_cancel] at hok hps
    have R1 := fun Q => Cq_of (Q := Q) (q_listen hK)
    have x0 : ¬ nI (l + 1) = nI 0 := fun w => absurd (nI_inj (by omega) (by omega) w) (by omega)
    have hH : hrN c hs ht (l + 1) < 2 ^ c 0 := by rw [hr_S]; exact heN_lt hK.1.1 hht _ (Nat.le_refl _)
    have go : ∀ t (v23 : Int32), t < 3 → (v23 < nI 0 ∨ (¬ v23 < nI 0 ∧ gpN c (hrN c hs ht (l + 1)) t 6 < pcN (hrN c hs ht (l + 1)))) → Wq (some (N, xs)) 133 2725 [some (.retAddr 0), some (.ref (0 : Nat)), some (.ref (118 : Nat)), some (.ref (119 : Nat)), some (.ref (120 : Nat)), some (.int (nI (c 0))), some (.int (nI (c 2))), some (.int (nI (c 3))), a8, some (.int (nI (n 20))), some (.int (nI (n 21))), some (.int (nI (n 19))), some (.int (nI (n 18))), a13, a14, a15, a16, a17, a18, some (.int (nI w)), some (.int (nI b)), some (.int (nI (hrN c hs ht (l + 1)))), some (.int (nI (l + 1))), some (.int v23), some (.int (nI t)), a25, a26, a27, a28, a29] [] σ Q := by
      intro t v23 ht3' hv
      have hw' : Tn c w t < c 0 := Tn_lt hK.1.1 hw ht3'
      have h6 : c (5 + Tn c w t) < 6 := hK.1.1.2.2.2.2.1 _ hw'
      have R2 := fun Q => Cq_of (Q := Q) (q_crossing hK hw ht3')
      have R3 := fun Q => Cq_of (Q := Q) (q_crossing0 hK hw')
      obtain ⟨τ, e1, K1, k1⟩ := q_hear (t := t) (e := c (5 + Tn c w t)) hK ht3' h6 (by omega)
      have c1 := fun Q => Cq_of (Q := Q) e1
      have g1 : ∀ i, i ≤ l → up1 hs (l + 1) (c (5 + Tn c w t)) i = hs i := fun i hi => up1_ne (by omega)
      have g2 : ∀ i, 1 ≤ i → i ≤ l → up1 ht (l + 1) t i = ht i := fun i _ hi => up1_ne (by omega)
      have hpsn : psN c (up1 ht (l + 1) t) b (l + 1) = Tn c w t := by rw [psN, psN_cg l g2, hps, up1_eq]
      have hokn : okN c (up1 hs (l + 1) (c (5 + Tn c w t))) (up1 ht (l + 1) t) b (l + 1) = true := by
        rw [okN, okN_cg l g1 g2, hok, hpsn, up1_eq, decide_eq_true rfl]; rfl
      have hht' : ∀ i, up1 ht (l + 1) t i < 3 := fun i => by unfold up1; split <;> first | exact ht3' | exact hht i
      have hcn := he_next (k := l) (hs := up1 hs (l + 1) (c (5 + Tn c w t))) (ht := up1 ht (l + 1) t) hK.1.1 hht' up1_eq up1_eq
      rw [heN_cg g1 g2, ← hr_S, ← hr_S] at hcn
      have hcs := cnS_cnt (c := c) (s := hrN c hs ht (l + 1)) (t := t) (e := c (5 + Tn c w t)) (c 0)
      have hup := cnt_up (s := hrN c hs ht (l + 1)) (c 0) 8 w0
      have hgp := cnS_gp (c := c) (s := hrN c hs ht (l + 1)) (t := t) 6 h6
      rw [pc_cnt _ (by omega)] at hv
      simp only [Tn] at R3
      rw [show Tn c w t = c (13 + (3 * w + t)) from rfl] at c1
      simp only [w133_2725, w133_2727, w133_2730, w133_2732, w133_2735, w133_2736, w133_2738, w133_2739, w133_2741, w133_2742, w133_2745, w133_2747, w133_2749, w133_2752, w133_2753, w133_2754, w133_2756, w133_2757, w133_2760, w133_2763, w133_2766, w133_2767, w133_2769, w133_2770, w133_2772, w133_2773, w133_2776, w133_2779, ks_0, x0, show nI 1 + nI t = nI (t + 1) by rw [nI_add, Nat.add_comm], R2, R3, c1, ↓reduceIte, Option.toList_some, Option.toList_none, List.cons_append, List.nil_append]
      refine l_h2 (j := l + 1) K1 (by omega) hb hokn hpsn (Nat.le_trans hcn (Nat.le_trans hcs hup)) (by omega) (fun h => by omega) ?_ ?_
      · rcases hv with hv | ⟨hv, hg⟩
        · exact Or.inl hv
        · exact Or.inr ⟨hv, Nat.ne_of_lt (Nat.lt_of_le_of_lt hcn (Nat.lt_of_le_of_lt hgp hg))⟩
      · exact kk _ _ τ _ _ _ _ K1 (TF_F hT k1) hw' hokn hpsn
    rw [w133_2676]
    have hl := (lt_some (c := c) (s := hrN c hs ht (l + 1)) 3).2
    cases hlt : (ltN c (hrN c hs ht (l + 1)) 3).1 with
    | none =>
      rw [hlt] at R1
      simp only [oI] at R1
      have h2 := go (partV (cellV N xs 48 >>> (nI (2 * (l + 1)) &&& 31)) 3) (-1) t3 (Or.inl hm1)
      simp only [w133_2678, w133_2680, w133_2683, w133_2685, w133_2688, w133_2689, w133_2692, w133_2693, w133_2696, w133_2698, w133_2700, w133_2703, w133_2704, w133_2706, w133_2709, w133_2710, w133_2712, w133_2713, w133_2714, w133_2715, w133_2718, w133_2721, w133_2723, ks_0, x9, x0, R1, hm1, hm2, C1, pk_mul, P1, ↓reduceIte, Option.toList_some, Option.toList_none, List.cons_append, List.nil_append]
      exact h2
    | some t =>
      obtain ⟨l1, l2⟩ := hl t hlt
      rw [hlt] at R1
      simp only [oI] at R1
      have x3 : ¬ nI t < nI 0 := nI_nlt (Nat.zero_le _) (by omega)
      have h2 := go t (nI t) l1 (Or.inr ⟨x3, l2⟩)
      have x4 : nI 0 ≤ nI t := nI_le (Nat.zero_le _) (by omega)
      simp only [w133_2678, w133_2680, w133_2683, w133_2685, w133_2688, w133_2689, w133_2692, w133_2693, w133_2696, w133_2698, w133_2700, w133_2703, w133_2704, w133_2706, w133_2709, w133_2710, w133_2712, w133_2713, w133_2714, w133_2715, w133_2718, w133_2721, w133_2723, ks_0, x9, x0, R1, x3, x4, ↓reduceIte, Option.toList_some, Option.toList_none, List.cons_append, List.nil_append]
      exact h2
theorem l_h (hN : N < 2 ^ 31) {b : Nat} (hb : b < c 0) (kk : ∀ hs ht τ v19 v21 v22 v23 v24 v25, KA c n k p q im 9 hs ht m bg bx L tx f s τ → TF c τ → Wq (some (N, xs)) 133 2918 [some (.retAddr 0), some (.ref (0 : Nat)), some (.ref (118 : Nat)), some (.ref (119 : Nat)), some (.ref (120 : Nat)), some (.int (nI (c 0))), some (.int (nI (c 2))), some (.int (nI (c 3))), a8, some (.int (nI (n 20))), some (.int (nI (n 21))), some (.int (nI (n 19))), some (.int (nI (n 18))), a13, a14, a15, a16, a17, a18, v19, some (.int (nI b)), v21, v22, v23, v24, v25, a26, a27, a28, a29] [] τ Q) : ∀ (f' j : Nat) (hs ht : Nat → Nat) (σ : dm_G) (w e : Nat) (v23 v24 v25 : Option Value), j + f' = 9 → KA c n k p q im j hs ht m bg bx L tx f s σ → TF c σ → w < c 0 → e < 2 ^ 31 → (j = 0 → e = 2 ^ c 0 - 1 ∧ w = b) → (0 < j → e = hrN c hs ht j ∧ okN c hs ht b (j - 1) = true ∧ psN c ht b (j - 1) = w) → Wq (some (N, xs)) 133 2676 [some (.retAddr 0), some (.ref (0 : Nat)), some (.ref (118 : Nat)), some (.ref (119 : Nat)), some (.ref (120 : Nat)), some (.int (nI (c 0))), some (.int (nI (c 2))), some (.int (nI (c 3))), a8, some (.int (nI (n 20))), some (.int (nI (n 21))), some (.int (nI (n 19))), some (.int (nI (n 18))), a13, a14, a15, a16, a17, a18, some (.int (nI w)), some (.int (nI b)), some (.int (nI e)), some (.int (nI j)), v23, v24, v25, a26, a27, a28, a29] [] σ Q := by
  intro f'
  induction f' with
  | zero =>
    intro j hs ht σ w e v23 v24 v25 hj hK hT hw he h0 h1
    obtain rfl : j = 9 := by omega
    rw [w133_2676]
    simp only [w133_2678, w133_2680, nI_le (Nat.le_refl 9) (show 9 < 2 ^ 31 by omega), ↓reduceIte, Option.toList_some, Option.toList_none, List.cons_append, List.nil_append]
    exact kk hs ht σ _ _ _ _ _ _ hK hT
  | succ f' ih =>
    intro j hs ht σ w e v23 v24 v25 hj hK hT hw he h0 h1
    refine l_h1 hN hK hT (by omega) hb hw he h0 h1 (fun hs ht τ w' v23 v24 v25 K1 T1 hw' ok' ps' => ?_)
    obtain ⟨-, -, -, -, ⟨hh9, hhs, hht⟩, -⟩ := id K1.1
    have p8 : 2 ^ c 0 ≤ 2 ^ 8 := Nat.pow_le_pow_right (by decide) hK.1.1.1
    have hH : hrN c hs ht (j + 1) < 2 ^ c 0 := by rw [hr_S]; exact heN_lt hK.1.1 hht _ (Nat.le_refl _)
    exact ih (j + 1) hs ht τ w' _ _ _ _ (by omega) K1 T1 hw' (by omega) (fun z => by omega) (fun _ => ⟨rfl, ok', ps'⟩)
end LWH
