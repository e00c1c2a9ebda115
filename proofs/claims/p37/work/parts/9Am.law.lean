/-! the law: its end -/
section LWM
variable {N : Nat} {xs : Nat → Int32} {σ : dm_G} {Q : Option Value → dm_G → Prop} {a8 a13 a14 a15 a16 a17 a18 a19 a20 a21 a22 a23 a24 a25 a26 a27 a28 a29 : Option Value} {c n : Nat → Nat} {k : Nat} {p : Nat → Nat → Nat} {q : Nat} {im : Nat → Nat → Nat} {h : Nat} {hs ht : Nat → Nat} {m : Nat} {bg bx : Nat → Nat} {L : Nat} {tx : Nat → Nat} {f : Int32} {s : Nat}
theorem WN_cg {n n' : Nat → Nat} (hw : WC c) (hn : ∀ a, a < 22 → n' a = n a) (h1 : WN c n) : WN c n' := by
  have w2 := hw.2.1
  obtain ⟨g1, g2, g3, g4, g5⟩ := h1
  refine ⟨fun g hg => ?_, by rw [hn 18 (by omega)]; exact g2, by rw [hn 19 (by omega)]; exact g3, by rw [hn 20 (by omega)]; exact g4, by rw [hn 21 (by omega)]; exact g5⟩
  rw [hn g (by omega), hn (6 + g) (by omega), hn (12 + g) (by omega)]
  exact g1 g hg
theorem KA_n {n' : Nat → Nat} (hn : ∀ a, a < 22 → n' a = n a) (hK : KA c n k p q im h hs ht m bg bx L tx f s σ) : KA c n' k p q im h hs ht m bg bx L tx f s σ := by
  obtain ⟨⟨a1, a2, a3⟩, b1, ⟨s1, s2, ⟨j3, j4, j5, j6⟩, jf⟩, b3⟩ := id hK
  have w2 := a1.2.1
  refine ⟨⟨a1, WN_cg a1 hn a2, a3⟩, b1, ⟨s1, s2, ⟨by rw [hn 19 (by omega)]; exact j3, by rw [hn 18 (by omega)]; exact j4, by rw [hn 20 (by omega)]; exact j5, by rw [hn 21 (by omega)]; exact j6⟩, fun g hg => ?_⟩, b3⟩
  rw [hn g (by omega), hn (6 + g) (by omega), hn (12 + g) (by omega)]
  exact jf g hg
theorem l_z2 {i0 : Nat → Nat} (hi0 : ∀ a, a < 22 → i0 a = bnN c a) (hK : KA c i0 0 p q im h hs ht m bg bx L tx f s σ) (hT : TF c σ) (kk : Q (some (.int (nI 1))) σ) : Wq (some (N, xs)) 133 3226 [some (.retAddr 0), some (.ref (0 : Nat)), some (.ref (118 : Nat)), some (.ref (119 : Nat)), some (.ref (120 : Nat)), some (.int (nI (c 0))), some (.int (nI (c 2))), some (.int (nI (c 3))), a8, some (.int (nI (n 20))), some (.int (nI (n 21))), some (.int (nI (n 19))), some (.int (nI (n 18))), a13, a14, a15, a16, a17, a18, a19, a20, a21, a22, a23, a24, a25, a26, a27, a28, a29] [] σ Q := by
  have w2 := hK.1.1.2.1
  have u1 := fun Q => Cq_of (Q := Q) (q_undo0 hK)
  have t1 := fun Q => Cq_of (Q := Q) (q_told (j := 1) hK (by omega))
  have t4 := fun Q => Cq_of (Q := Q) (q_told (j := 4) hK (by omega))
  have t6 := fun Q => Cq_of (Q := Q) (q_told (j := 6) hK (by omega))
  have t7 := fun Q => Cq_of (Q := Q) (q_told (j := 7) hK (by omega))
  have t8 := fun Q => Cq_of (Q := Q) (q_told (j := 8) hK (by omega))
  have t9 := fun Q => Cq_of (Q := Q) (q_told (j := 9) hK (by omega))
  simp only [tdN] at t1 t4 t6 t7 t8 t9
  have b : ∀ a, 12 ≤ a → a < 22 → i0 a = 0 := fun a h1 h2 => by rw [hi0 a h2]; unfold bnN; rw [if_neg (by omega), if_neg (by omega)]
  have hz : haN i0 (c 2) = 0 := by
    have := haN_lt2 (n := i0) (m := c 2) (N := 0) (fun g hg => by rw [b _ (by omega) (by omega)]; decide)
    omega
  obtain ⟨k', e1, -, -, e2, -⟩ := pt_talk (n := i0) (m := c 2) w2
  rw [e1, e2 hz] at t9
  rw [b 20 (by omega) (by omega)] at t4
  rw [b 19 (by omega) (by omega)] at t6
  rw [b 18 (by omega) (by omega)] at t7
  rw [b 21 (by omega) (by omega)] at t8
  simp only [oI] at t9
  simp only [w133_3226, w133_3227, w133_3230, w133_3232, w133_3235, w133_3236, w133_3237, w133_3240, w133_3243, w133_3244, w133_3246, w133_3249, w133_3252, w133_3253, w133_3255, w133_3258, w133_3261, w133_3262, w133_3264, w133_3267, w133_3270, w133_3271, w133_3273, w133_3276, w133_3279, w133_3280, w133_3281, w133_3284, w133_3286, w133_3289, w133_3290, w133_3293, w133_3294, ks_0, u1, t1, t4, t6, t7, t8, t9, (by decide : nI 1 &&& 1 = nI 1), (by decide : nI 0 &&& 1 = nI 0), ↓reduceIte, Option.toList_some, Option.toList_none, List.cons_append, List.nil_append]
  exact kk
theorem l_z1 (hN : N < 2 ^ 31) (hi0 : ∀ a, a < 22 → im 0 a = bnN c a) (hq : q.testBit 0 = true) (hK : KA c n k p q im h hs ht m bg bx L tx f s σ) (hT : TF c σ) (h9 : n 20 ≤ 9000) (kk : ∀ τ, Q (some (.int (nI 1))) τ) : Wq (some (N, xs)) 133 3084 [some (.retAddr 0), some (.ref (0 : Nat)), some (.ref (118 : Nat)), some (.ref (119 : Nat)), some (.ref (120 : Nat)), some (.int (nI (c 0))), some (.int (nI (c 2))), some (.int (nI (c 3))), a8, some (.int (nI (n 20))), some (.int (nI (n 21))), some (.int (nI (n 19))), some (.int (nI (n 18))), a13, a14, a15, a16, a17, a18, a19, a20, a21, a22, a23, a24, a25, a26, a27, a28, a29] [] σ Q := by
  have w2 := hK.1.1.2.1
  have n1 := hT.1
  have hs31 : s < 2 ^ 31 := hK.1.2.2.2.2.2.2.2
  have n21 := hK.1.2.1.2.2.2.2
  have C1 := fun σ Q => q_cellC (σ := σ) (Q := Q) (xs := xs) (a := 50) (by omega) hN
  have C2 := fun σ Q => q_cellC (σ := σ) (Q := Q) (xs := xs) (a := 51) (by omega) hN
  have v1 := partV_lt (cellV N xs 50) (d := 99999) (by omega)
  have v2 := partV_lt (cellV N xs 51) (d := 60) (by omega)
  have P1 : ∀ σ Q, Cs (some (N, xs)) 124 [.int (cellV N xs 50), .int (nI 99999)] σ Q = _ := fun σ Q => q_partC (by omega) (by omega)
  have P2 : ∀ σ Q, Cs (some (N, xs)) 124 [.int (cellV N xs 51), .int (nI 60)] σ Q = _ := fun σ Q => q_partC (by omega) (by omega)
  generalize partV (cellV N xs 50) 99999 = v at v1 P1
  generalize partV (cellV N xs 51) 60 = r at v2 P2
  obtain ⟨τ1, e1, K1, k1⟩ := q_seed (v := v) hK (by omega)
  obtain ⟨τ2, e2, K2, k2⟩ := q_keep (i := 1) K1 (by omega)
  have hk2 : (q ||| 1 <<< 1).testBit 1 = true := by rw [Nat.testBit_or, tb_shl1]; simp
  have hk0 : (q ||| 1 <<< 1).testBit 0 = true := by rw [Nat.testBit_or, hq]; rfl
  obtain ⟨τ3, e3, K3, k3⟩ := q_drift (j := r + 1) K2 (by omega) h9 (by omega) (by omega)
  obtain ⟨d1, d2, -, d4⟩ := di_21 (c := c) w2 (r + 1) n v n21
  have t6 := fun Q => Cq_of (Q := Q) (q_told (j := 6) K3 (by omega))
  have t4 := fun Q => Cq_of (Q := Q) (q_told (j := 4) K3 (by omega))
  have t7 := fun Q => Cq_of (Q := Q) (q_told (j := 7) K3 (by omega))
  obtain ⟨τ4, e4, K4, k4⟩ := q_goBack (i := 1) K3 (by omega) hk2
  simp only [if_pos] at K4
  have K5 := KA_n (n' := n) (fun a ha => (up1_ne (by omega)).symm) K4
  rw [up1_eq] at K5
  have t7b := fun Q => Cq_of (Q := Q) (q_told (j := 7) K5 (by omega))
  obtain ⟨τ6, e6, K6, k6⟩ := q_drift (j := r + 1) K5 (by omega) h9 (by omega) (by omega)
  have t6b := fun Q => Cq_of (Q := Q) (q_told (j := 6) K6 (by omega))
  obtain ⟨τ7, e7, K7, k7⟩ := q_goBack (i := 0) K6 (by omega) hk0
  rw [if_neg (by omega)] at K7
  simp only [tdN] at t6 t4 t7 t7b t6b
  rw [d4 (by omega)] at t7
  rw [d2] at t4
  have c1 := fun Q => Cq_of (Q := Q) e1
  have c2 := fun Q => Cq_of (Q := Q) e2
  have c3 := fun Q => Cq_of (Q := Q) e3
  have c4 := fun Q => Cq_of (Q := Q) e4
  have c6 := fun Q => Cq_of (Q := Q) e6
  have c7 := fun Q => Cq_of (Q := Q) e7
  have x1 : ¬ nI s < nI 0 := nI_nlt (Nat.zero_le _) hs31
  have n21' := K3.1.2.1.2.2.2.2
  have x2 : ¬ nI ((diN c (r + 1) n v).1 21) < nI (n 21) := nI_nlt d1 (by omega)
  have x3 : nI 1 + nI r = nI (r + 1) := by rw [nI_add, Nat.add_comm]
  simp only [w133_3084, w133_3085, w133_3086, w133_3088, w133_3091, w133_3093, w133_3096, w133_3099, w133_3102, w133_3103, w133_3104, w133_3107, w133_3108, w133_3111, w133_3112, w133_3113, w133_3114, w133_3115, w133_3117, w133_3120, w133_3122, w133_3125, w133_3126, w133_3128, w133_3129, w133_3131, w133_3134, w133_3136, w133_3137, w133_3139, w133_3142, w133_3144, w133_3146, w133_3148, w133_3151, w133_3152, w133_3153, w133_3156, w133_3158, w133_3160, w133_3161, w133_3164, w133_3165, w133_3167, w133_3170, w133_3173, w133_3174, w133_3175, w133_3178, w133_3179, w133_3182, w133_3183, w133_3185, w133_3188, w133_3190, w133_3193, w133_3194, w133_3196, w133_3199, w133_3201, w133_3204, w133_3205, w133_3207, w133_3210, w133_3212, w133_3215, w133_3216, w133_3217, w133_3218, w133_3219, w133_3222, w133_3223, ks_0, C1, C2, P1, P2, c1, c2, c3, c4, c6, c7, t4, t6, t7, t7b, t6b, x1, x2, x3, nI_add, ↓reduceIte, Option.toList_some, Option.toList_none, List.cons_append, List.nil_append]
  exact l_z2 hi0 K7 (TF_F (TF_F (TF_F (TF_F (TF_F (TF_F hT k1) k2) k3) k4) k6) k7) (kk τ7)
end LWM
