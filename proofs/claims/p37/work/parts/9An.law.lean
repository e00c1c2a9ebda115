/-! the whole -/
def stL : List (Nat × Nat × Value) := [(0, 0, .ref (1 : Nat)), (0, 3, .ref (2 : Nat)), (0, 4, .ref (14 : Nat)), (2, 5, .ref (4 : Nat)), (0, 5, .ref (24 : Nat)), (0, 6, .ref (28 : Nat)), (0, 7, .ref (94 : Nat)), (0, 8, .ref (105 : Nat)), (0, 9, .ref (107 : Nat)), (0, 10, .ref (110 : Nat)), (0, 11, .ref (114 : Nat)), (0, 1, .int (nI 0)), (0, 2, .int (-1)), (0, 12, .int (nI 0)), (14, 0, .int (nI 0)), (14, 2, .int (nI 0)), (14, 3, .int (nI 0)), (14, 4, .int (nI 0)), (4, 5, .ref (5 : Nat)), (14, 5, .ref (15 : Nat)), (4, 6, .ref (6 : Nat)), (14, 6, .ref (16 : Nat)), (4, 7, .ref (7 : Nat)), (14, 7, .ref (17 : Nat)), (4, 8, .ref (8 : Nat)), (14, 8, .ref (18 : Nat)), (4, 9, .ref (9 : Nat)), (14, 9, .ref (19 : Nat)), (4, 10, .ref (10 : Nat)), (14, 10, .ref (20 : Nat)), (4, 11, .ref (11 : Nat)), (14, 11, .ref (21 : Nat)), (4, 12, .ref (12 : Nat)), (14, 12, .ref (22 : Nat)), (4, 13, .ref (13 : Nat)), (14, 13, .ref (23 : Nat)), (24, 0, .ref (25 : Nat)), (24, 1, .ref (26 : Nat)), (24, 2, .ref (27 : Nat)), (24, 3, .int (nI 0)), (24, 4, .int (nI 0)), (24, 5, .int (nI 0)), (24, 6, .int (nI 0)), (28, 0, .ref (29 : Nat)), (28, 1, .int (nI 0)), (28, 2, .int (nI 0)), (94, 0, .ref (95 : Nat)), (94, 1, .ref (104 : Nat)), (94, 2, .int (nI 0)), (95, 0, .ref (96 : Nat)), (95, 1, .ref (100 : Nat)), (96, 0, .ref (97 : Nat)), (96, 1, .ref (98 : Nat)), (96, 2, .ref (99 : Nat)), (100, 0, .ref (101 : Nat)), (100, 1, .ref (102 : Nat)), (100, 2, .ref (103 : Nat)), (105, 0, .int (-1)), (105, 1, .int (nI 0)), (105, 2, .ref (106 : Nat)), (107, 0, .int (nI 0)), (107, 1, .ref (108 : Nat)), (107, 2, .ref (109 : Nat)), (110, 0, .ref (111 : Nat)), (110, 1, .ref (112 : Nat)), (110, 2, .ref (113 : Nat)), (114, 2, .ref (115 : Nat)), (114, 3, .ref (116 : Nat)), (114, 4, .ref (117 : Nat))]
def stC (σ : dm_G) : Bool := stL.all (fun q => decide (σ q.1 q.2.1 = q.2.2)) && (List.range 16).all (fun i => decide (σ 29 i = .ref (30 + 4 * i)) && decide (σ (30 + 4 * i) 0 = .ref (30 + 4 * i + 1)) && decide (σ (30 + 4 * i) 1 = .ref (30 + 4 * i + 2)) && decide (σ (30 + 4 * i) 2 = .ref (30 + 4 * i + 3))) && decide (gi σ 23 0 = nI 0)
set_option maxRecDepth 1000000 in
theorem stC_ok : (match stR1 with
  | some (none, (_, σ)) => stC σ
  | _ => false) = true := by decide +kernel
theorem stC_G : stC (stG stR1) = true := by
  have h := stC_ok
  rw [R1_eq] at h
  exact h
theorem st_f {a b : Nat} {v : Value} (h : (a, b, v) ∈ stL) : stG stR1 a b = v := by
  have h1 := stC_G
  unfold stC at h1
  simp only [Bool.and_eq_true] at h1
  have h2 := List.all_eq_true.mp h1.1.1 _ h
  exact of_decide_eq_true h2
theorem st_29 {i : Nat} (hi : i < 16) : stG stR1 29 i = .ref (30 + 4 * i) ∧ SR (stG stR1) (30 + 4 * i) := by
  have h1 := stC_G
  unfold stC at h1
  simp only [Bool.and_eq_true] at h1
  have h2 := List.all_eq_true.mp h1.1.2 _ (List.mem_range.mpr hi)
  simp only [Bool.and_eq_true, decide_eq_true_eq] at h2
  exact ⟨h2.1.1.1, h2.1.1.2, h2.1.2, h2.2⟩
theorem st_o : gi (stG stR1) 23 0 = nI 0 := by
  have h1 := stC_G
  unfold stC at h1
  simp only [Bool.and_eq_true, decide_eq_true_eq] at h1
  exact h1.2
theorem KA_0 : KA (fun _ => 0) (fun _ => 0) 0 (fun _ _ => 0) 0 (fun _ _ => 0) 0 (fun _ => 0) (fun _ => 0) 0 (fun _ => 0) (fun _ => 0) 0 (fun _ => 0) (-1) 0 (stG stR1) := by
  have m : ∀ {a b : Nat} {v : Value}, (a, b, v) ∈ stL → stG stR1 a b = v := fun h => st_f h
  refine ⟨?_, ?_⟩
  · refine ⟨⟨Nat.zero_le _, Nat.zero_le _, Nat.zero_le _, Nat.zero_le _, fun x hx => absurd hx (Nat.not_lt_zero _), fun i hi => absurd hi (Nat.not_lt_zero _), fun g hg => absurd hg (Nat.not_lt_zero _), fun e he => absurd he (Nat.not_lt_zero _), fun i hi => absurd hi (Nat.not_lt_zero _)⟩, ⟨fun g hg => absurd hg (Nat.not_lt_zero _), by decide, by decide, Nat.zero_le _, Nat.zero_le _⟩, ⟨Nat.zero_le _, fun i hi => absurd hi (Nat.not_lt_zero _)⟩, ⟨by decide, fun i hi hb => by simp at hb⟩, ⟨Nat.zero_le _, fun _ => Nat.succ_pos 5, fun _ => Nat.succ_pos 2⟩, ⟨Nat.zero_le _, fun i hi => absurd hi (Nat.not_lt_zero _)⟩, ⟨Nat.zero_le _, fun i hi => absurd hi (Nat.not_lt_zero _)⟩, by decide⟩
  · refine ⟨⟨14, 4, Or.inr ⟨rfl, rfl⟩, ⟨m (by decide), m (by decide), m (by decide), m (by decide), m (by decide), m (by decide), m (by decide), m (by decide), m (by decide), m (by decide), m (by decide)⟩, ⟨CK_14, ⟨m (by decide), m (by decide), m (by decide), m (by decide), m (by decide), m (by decide), m (by decide), m (by decide), m (by decide)⟩, ⟨m (by decide), m (by decide), m (by decide), m (by decide)⟩, fun x hx => absurd hx (Nat.not_lt_zero _), fun i hi => absurd hi (Nat.not_lt_zero _), fun x hx => absurd hx (Nat.not_lt_zero _), fun g hg => absurd hg (Nat.not_lt_zero _), fun e he => absurd he (Nat.not_lt_zero _), fun i hi => absurd hi (Nat.not_lt_zero _), fun _ => st_o⟩, ⟨m (by decide), m (by decide), m (by decide), m (by decide), m (by decide), m (by decide), m (by decide), m (by decide), m (by decide)⟩⟩, ⟨SK_24, ⟨m (by decide), m (by decide), m (by decide)⟩, ⟨m (by decide), m (by decide), m (by decide), m (by decide)⟩, fun g hg => absurd hg (Nat.not_lt_zero _)⟩, ⟨0, by omega, ⟨m (by decide), m (by decide), m (by decide), fun i hi => (st_29 hi).1⟩, fun i hi => (st_29 hi).2, fun i hi => absurd hi (Nat.not_lt_zero _)⟩, ⟨⟨m (by decide), m (by decide), m (by decide), fun i hi => ?_⟩, fun i hi => ?_, fun i hi hb => by simp at hb⟩, ⟨m (by decide), fun _ => ⟨m (by decide), m (by decide)⟩, fun h => absurd h (Nat.not_lt_zero _)⟩, ⟨m (by decide), m (by decide), m (by decide), fun i hi => absurd hi (Nat.not_lt_zero _)⟩, ⟨m (by decide), fun i hi => absurd hi (Nat.not_lt_zero _)⟩, m (by decide), m (by decide), ⟨m (by decide), m (by decide), m (by decide), m (by decide), m (by decide), m (by decide)⟩⟩
    · rcases (by omega : i = 0 ∨ i = 1) with rfl | rfl
      · exact m (by decide)
      · exact m (by decide)
    · rcases (by omega : i = 0 ∨ i = 1) with rfl | rfl
      · exact ⟨m (by decide), m (by decide), m (by decide)⟩
      · exact ⟨m (by decide), m (by decide), m (by decide)⟩
theorem KA_Z : KA (fun _ => 0) (fun _ => 0) 0 (fun _ _ => 0) 0 (fun _ _ => 0) 0 (fun _ => 0) (fun _ => 0) 0 (fun _ => 0) (fun _ => 0) 0 (fun _ => 0) (-1) 0 stZ := KA_z (fun a b h => by
  unfold stZ st_A
  rw [if_neg (by omega), if_neg (by omega), if_neg (by omega)]) KA_0
section LWN
variable {N : Nat} {xs : Nat → Int32} {σ : dm_G} {Q : Option Value → dm_G → Prop} {a8 a13 a14 a15 a16 a17 a18 a19 a20 a21 a22 a23 a24 a25 a26 a27 a28 a29 : Option Value} {c n : Nat → Nat} {k : Nat} {p : Nat → Nat → Nat} {q : Nat} {im : Nat → Nat → Nat} {h : Nat} {hs ht : Nat → Nat} {m : Nat} {bg bx : Nat → Nat} {L : Nat} {tx : Nat → Nat} {f : Int32} {s : Nat}
theorem l_all {a9 a10 a11 a12 : Option Value} (hN : N < 2 ^ 31) (hi0 : ∀ a, a < 22 → im 0 a = bnN c a) (hq : q.testBit 0 = true) (hK : KA c n k p q im 0 hs ht 0 bg bx L tx f s σ) (hT : TF c σ) (h9 : n 20 ≤ 9000) (kk : ∀ τ, Q (some (.int (nI 1))) τ) : Wq (some (N, xs)) 133 1419 [some (.retAddr 0), some (.ref (0 : Nat)), some (.ref (118 : Nat)), some (.ref (119 : Nat)), some (.ref (120 : Nat)), some (.int (nI (c 0))), some (.int (nI (c 2))), some (.int (nI (c 3))), a8, a9, a10, a11, a12, a13, a14, a15, a16, a17, a18, a19, a20, a21, a22, a23, a24, a25, a26, a27, a28, a29] [] σ Q := by
  have w0 := hK.1.1.1
  have n1 := hT.1
  refine l_k1 hK hT (fun τ1 K1 T1 => ?_)
  have hq1 : (q ||| 1 <<< 1).testBit 0 = true := by rw [Nat.testBit_or, hq]; rfl
  have hi1 : ∀ a, a < 22 → (fun j => if j = 1 then up1 n 22 s else im j) 0 a = bnN c a := fun a ha => hi0 a ha
  generalize (fun j => if j = 1 then up1 n 22 s else im j) = im1 at K1 hi1
  generalize (q ||| 1 <<< 1) = q1 at K1 hq1
  refine l_g hN K1 T1 (fun {_ _ _ _ _ _ _ _ _ _ _ _ _ _ _ _ _ _} => ?_) (c 2) 0 (a13 := none) (by omega)
  refine l_mm K1 T1 (fun τ2 v13 v14 v15 v16 v17 v18 v20 v21 v22 v23 v24 K2 T2 => ?_)
  refine l_w hN (fun τ3 v19 v20 v21 v22 v23 v24 K3 T3 => ?_) 4 0 τ2 _ _ _ _ _ (by omega) K2 T2
  have b0 := partV_lt (cellV N xs 47) (d := c 0) (by omega)
  have C1 := fun σ Q => q_cellC (σ := σ) (Q := Q) (xs := xs) (a := 47) (by omega) hN
  have P1 : ∀ σ Q, Cs (some (N, xs)) 124 [.int (cellV N xs 47), .int (nI (c 0))] σ Q = _ := fun σ Q => q_partC (by omega) (by omega)
  generalize partV (cellV N xs 47) (c 0) = b at b0 P1
  have p0 : 0 < 2 ^ c 0 := Nat.two_pow_pos _
  have p8 : 2 ^ c 0 ≤ 2 ^ 8 := Nat.pow_le_pow_right (by decide) w0
  have e1 : nI (1 <<< c 0) - nI 1 = nI (2 ^ c 0 - 1) := by rw [Nat.one_shiftLeft, pk_sub (by omega)]
  simp only [w133_2648, w133_2649, w133_2651, w133_2654, w133_2656, w133_2659, w133_2661, w133_2663, w133_2665, w133_2666, w133_2668, w133_2669, w133_2670, w133_2671, w133_2673, w133_2674, C1, P1, nI_shl 1 (show c 0 < 32 by omega), e1, ↓reduceIte, Option.toList_some, Option.toList_none, List.cons_append, List.nil_append]
  refine l_h hN b0 (fun hs ht τ4 v19 v21 v22 v23 v24 v25 K4 T4 => ?_) 9 0 _ _ τ3 b (2 ^ c 0 - 1) _ _ _ (by omega) K3 T3 b0 (by omega) (fun _ => ⟨rfl, rfl⟩) (fun z => absurd z (Nat.lt_irrefl 0))
  have H9 := fun Q => Cq_of (Q := Q) (q_hear_9 (t := 0) (e := 0) K4 (by omega) (by omega))
  simp only [w133_2918, w133_2919, w133_2920, w133_2921, w133_2924, w133_2926, w133_2929, w133_2930, w133_2931, w133_2932, ks_0, H9, ↓reduceIte, Option.toList_some, Option.toList_none, List.cons_append, List.nil_append]
  refine l_b1 (fun τ5 v22 bg bx K5 T5 => ?_) (c 2) 0 _ _ τ4 (by omega) K4 T4 (fun i hi => absurd hi (by omega))
  refine l_b2 K5 T5 (fun τ6 K6 T6 => ?_)
  have C2 := fun σ Q => q_cellC (σ := σ) (Q := Q) (xs := xs) (a := 49) (by omega) hN
  have q0 := partV_lt (cellV N xs 49) (d := 101) (by omega)
  have P2 : ∀ σ Q, Cs (some (N, xs)) 124 [.int (cellV N xs 49), .int (nI 101)] σ Q = _ := fun σ Q => q_partC (by omega) (by omega)
  generalize partV (cellV N xs 49) 101 = q' at q0 P2
  simp only [w133_2998, w133_3000, w133_3002, w133_3003, w133_3005, w133_3008, w133_3010, w133_3013, w133_3015, w133_3016, C2, P2, ↓reduceIte, Option.toList_some, Option.toList_none, List.cons_append, List.nil_append]
  refine l_c1 K6 (q' := q') (by omega) (fun v22 v24 v25 => ?_) 13 0 1000000000 _ (by omega) (clV_le (by omega) _ _) (Nat.le_refl _)
  exact l_z1 hN hi1 hq1 K6 T6 h9 kk
end LWN
theorem law_all {L : Nat} {xs : Nat → Int32} (hL : L ≤ 260) : dm_law L xs := by
  refine dm_law_of ?_
  have hN : L < 2 ^ 31 := by omega
  obtain ⟨τ1, e1, c', tx', K1, T1⟩ := q_tells (N := L) (xs := xs) hN KA_Z
  have c1 := fun Q => Cs_of (Q := Q) e1
  obtain ⟨τ2, e2, K2, k2⟩ := q_keep (i := 0) K1 (by omega)
  have c2 := fun Q => Cq_of (Q := Q) e2
  have T2 := TF_F T1 k2
  obtain ⟨t0, t2, t3, g0, g2, g3, hG⟩ := id T2
  have C1 := fun σ Q => q_cellC (σ := σ) (Q := Q) (xs := xs) (a := 17) (by omega) hN
  have tl := partV_lt (cellV L xs 17) (d := 24) (by omega)
  have P1 : ∀ σ Q, Cs (some (L, xs)) 124 [.int (cellV L xs 17), .int (nI 24)] σ Q = _ := fun σ Q => q_partC (by omega) (by omega)
  generalize partV (cellV L xs 17) 24 = tn at tl P1
  have n10 : ¬ nI 1 = nI 0 := by decide
  show Wq (some (L, xs)) 133 22 [some (.retAddr 0), some (.ref (0 : Nat)), some (.ref (118 : Nat)), some (.ref (119 : Nat)), none, none, none, none, none, none, none, none, none, none, none, none, none, none, none, none, none, none, none, none, none, none, none, none, none, none] [(.ref (120 : Nat))] stZ _
  simp only [w133_22, w133_24, w133_25, w133_26, w133_27, w133_28, w133_30, w133_32, w133_33, w133_34, w133_37, w133_40, w133_41, w133_42, w133_45, w133_46, w133_49, w133_50, w133_51, w133_52, w133_53, w133_53s, w133_54, w133_56, w133_57, w133_58, w133_58s, w133_59, w133_61, w133_62, w133_63, w133_63s, w133_64, w133_66, w133_67, w133_69, w133_72, w133_74, w133_77, w133_79, w133_80, ks_0, c1, c2, n10, kt_118, in_nI (show 0 < kl 118 by rw [kl_118]; omega) (by rw [kl_118]; omega), nI_clamp (show 0 < 2 ^ 31 by omega), in_nI (show 2 < kl 118 by rw [kl_118]; omega) (by rw [kl_118]; omega), nI_clamp (show 2 < 2 ^ 31 by omega), in_nI (show 3 < kl 118 by rw [kl_118]; omega) (by rw [kl_118]; omega), nI_clamp (show 3 < 2 ^ 31 by omega), g0, g2, g3, C1, P1, ↓reduceIte, Option.toList_some, Option.toList_none, List.cons_append, List.nil_append]
  refine l_main hN (by omega) (fun n k p s σ {_ _ _ _ _ _ _ _ _ _ _ _ _ _ _ _ _ _ _ _} K3 T3 KN3 h20 => ?_) tn 0 _ _ _ _ τ2 (by omega) K2 T2 ?_ ?_
  · refine l_all hN ?_ ?_ K3 T3 ?_ (fun _ => rfl)
    · intro a ha
      rw [if_pos rfl]
      exact up1_ne (by omega)
    · decide
    · omega
  · intro g hg j hj
    have w2 := K2.1.1.2.1
    unfold bnN
    rw [if_neg (by omega), if_pos (by omega), Nat.add_sub_cancel_left]
    exact hj
  · exact Nat.le_refl 0
theorem i_vc : Claimed_1_1 ∧ Claimed_1_2 := i_vc_of (fun L xs hL => law_all hL)
