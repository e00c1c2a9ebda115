/-! the law's first loop, whole -/
section LW6
variable {N : Nat} {xs : Nat → Int32} {σ : dm_G} {Q : Option Value → dm_G → Prop} {tn i : Nat} {x : Int32} {g e y at' kn hd how : Nat} {a10 a11 a12 a13 a14 a15 a16 a17 a18 a19 a20 a21 a22 a23 a24 a25 a26 a27 a28 a29 : Option Value} {c n : Nat → Nat} {k : Nat} {p : Nat → Nat → Nat} {q : Nat} {im : Nat → Nat → Nat} {h : Nat} {hs ht : Nat → Nat} {m : Nat} {bg bx : Nat → Nat} {L : Nat} {tx : Nat → Nat} {f : Int32} {s : Nat}
theorem lG {n' : Nat → Nat} {k0 did : Nat} {p' : Nat → Nat → Nat} {s' : Nat} (hK : KA c n' k0 p' q im h hs ht m bg bx L tx f s' σ) (hk : k ≤ 16) (hG : GA c n g e y at' kn hd) (hd1 : (did = 1 ∧ k0 = min (k + 1) 16 ∧ p' = pushP n p) ∨ (did = 0 ∧ n' = n ∧ k0 = k ∧ p' = p)) (kk : ∀ n2 k2 p2 τ, KA c n2 k2 p2 q im h hs ht m bg bx L tx f s' τ → FZ σ τ → (n2 = n' ∨ n2 = n) → Wq (some (N, xs)) 133 1413 [some (.retAddr 0), some (.ref (0 : Nat)), some (.ref (118 : Nat)), some (.ref (119 : Nat)), some (.ref (120 : Nat)), some (.int (nI (c 0))), some (.int (nI (c 2))), some (.int (nI (c 3))), some (.int (nI tn)), some (.int (nI i)), some (.int x), some (.int (nI k)), some (.int (nI (n 20))), some (.int (nI (n 19))), some (.int (nI (n 18))), some (.int (nI (n 21))), some (.int (nI g)), some (.int (nI e)), some (.int (nI y)), some (.int (nI at')), some (.int (nI kn)), some (.int (nI hd)), some (.int (nI how)), some (.int (nI did)), a24, a25, a26, a27, a28, a29] [] τ Q) : Wq (some (N, xs)) 133 1286 [some (.retAddr 0), some (.ref (0 : Nat)), some (.ref (118 : Nat)), some (.ref (119 : Nat)), some (.ref (120 : Nat)), some (.int (nI (c 0))), some (.int (nI (c 2))), some (.int (nI (c 3))), some (.int (nI tn)), some (.int (nI i)), some (.int x), some (.int (nI k)), some (.int (nI (n 20))), some (.int (nI (n 19))), some (.int (nI (n 18))), some (.int (nI (n 21))), some (.int (nI g)), some (.int (nI e)), some (.int (nI y)), some (.int (nI at')), some (.int (nI kn)), some (.int (nI hd)), some (.int (nI how)), some (.int (nI did)), a24, a25, a26, a27, a28, a29] [] σ Q := by
  rcases hd1 with ⟨rfl, rfl, rfl⟩ | ⟨rfl, rfl, rfl, rfl⟩
  · by_cases hz : partV (x >>> (nI 20 &&& 31)) 4 = 0
    · rw [show min (k + 1) 16 = min k 15 + 1 by omega] at hK
      obtain ⟨τ, e1, K1, k1⟩ := q_undo hK
      have K1 : KA c n (min k 15) p q im h hs ht m bg bx L tx f s' τ := K1
      have c1 := fun Q => Cq_of (Q := Q) e1
      have t4 := fun Q => Cq_of (Q := Q) (q_told (j := 4) K1 (by omega))
      have t6 := fun Q => Cq_of (Q := Q) (q_told (j := 6) K1 (by omega))
      have t7 := fun Q => Cq_of (Q := Q) (q_told (j := 7) K1 (by omega))
      have t8 := fun Q => Cq_of (Q := Q) (q_told (j := 8) K1 (by omega))
      simp only [tdN] at t4 t6 t7 t8
      have w2 := K1.1.1.2.1
      have fin := kk n _ _ τ K1 k1 (Or.inr rfl)
      have e0 : ∀ Q', Wq (some (N, xs)) 133 1310 [some (.retAddr 0), some (.ref (0 : Nat)), some (.ref (118 : Nat)), some (.ref (119 : Nat)), some (.ref (120 : Nat)), some (.int (nI (c 0))), some (.int (nI (c 2))), some (.int (nI (c 3))), some (.int (nI tn)), some (.int (nI i)), some (.int x), some (.int (nI k)), some (.int (nI (n 20))), some (.int (nI (n 19))), some (.int (nI (n 18))), some (.int (nI (n 21))), some (.int (nI g)), some (.int (nI e)), some (.int (nI y)), some (.int (nI at')), some (.int (nI kn)), some (.int (nI hd)), some (.int (nI how)), some (.int (nI 1)), a24, a25, a26, a27, a28, a29] [.int (nI (min k 15))] τ Q' = Wq (some (N, xs)) 133 1327 [some (.retAddr 0), some (.ref (0 : Nat)), some (.ref (118 : Nat)), some (.ref (119 : Nat)), some (.ref (120 : Nat)), some (.int (nI (c 0))), some (.int (nI (c 2))), some (.int (nI (c 3))), some (.int (nI tn)), some (.int (nI i)), some (.int x), some (.int (nI k)), some (.int (nI (n 20))), some (.int (nI (n 19))), some (.int (nI (n 18))), some (.int (nI (n 21))), some (.int (nI g)), some (.int (nI e)), some (.int (nI y)), some (.int (nI at')), some (.int (nI kn)), some (.int (nI hd)), some (.int (nI how)), some (.int (nI 1)), a24, a25, a26, a27, a28, a29] [] τ Q' := by
        intro Q'
        by_cases h16 : k < 16
        · rw [Nat.min_eq_left (show k ≤ 15 by omega)]
          simp only [w133_1310, w133_1312, w133_1314, w133_1317, w133_1319, w133_1322, w133_1324, nI_ge h16 (show 16 < 2 ^ 31 by omega), ↓reduceIte, Option.toList_some, Option.toList_none, List.cons_append, List.nil_append]
        · obtain rfl : k = 16 := by omega
          simp only [w133_1310, w133_1312, w133_1314, w133_1317, w133_1319, w133_1322, w133_1324, nI_le (Nat.le_refl 16) (show 16 < 2 ^ 31 by omega), (by decide : min 16 15 = 15), ↓reduceIte, Option.toList_some, Option.toList_none, List.cons_append, List.nil_append]
      rw [w133_1286]
      simp only [w133_1288, w133_1291, w133_1293, w133_1295, w133_1296, w133_1297, w133_1300, w133_1303, w133_1306, w133_1307, nI_ne1, q_partC (d := 4) (by omega) (by omega), hz, nI_le (Nat.le_refl 0) (show 0 < 2 ^ 31 by omega), ks_0, c1, ↓reduceIte, Option.toList_some, Option.toList_none, List.cons_append, List.nil_append]
      rw [e0]
      obtain ⟨hG1, hG2, -⟩ := hG
      by_cases z2 : c 2 = 0
      · have n2 : nI (c 2) ≤ nI 0 := nI_le (by omega) (by omega)
        simp only [w133_1327, w133_1328, w133_1329, w133_1332, w133_1334, w133_1337, w133_1338, w133_1340, w133_1343, w133_1345, w133_1348, w133_1349, w133_1351, w133_1354, w133_1356, w133_1359, w133_1360, w133_1362, w133_1365, w133_1367, w133_1370, w133_1372, ks_0, t4, t6, t7, t8, n2, ↓reduceIte, Option.toList_some, Option.toList_none, List.cons_append, List.nil_append]
        exact fin
      · obtain ⟨hg, rfl, rfl, rfl⟩ := hG1 (by omega)
        have n2 : ¬ nI (c 2) ≤ nI 0 := nI_ge (by omega) (by omega)
        have u0 := fun Q => Cq_of (Q := Q) (q_guide (j := 0) K1 hg (by omega))
        have u2 := fun Q => Cq_of (Q := Q) (q_guide (j := 2) K1 hg (by omega))
        have u3 := fun Q => Cq_of (Q := Q) (q_guide (j := 3) K1 hg (by omega))
        simp only [gdN] at u0 u2 u3
        simp only [w133_1327, w133_1328, w133_1329, w133_1332, w133_1334, w133_1337, w133_1338, w133_1340, w133_1343, w133_1345, w133_1348, w133_1349, w133_1351, w133_1354, w133_1356, w133_1359, w133_1360, w133_1362, w133_1365, w133_1367, w133_1370, w133_1372, w133_1375, w133_1376, w133_1378, w133_1379, w133_1382, w133_1384, w133_1387, w133_1388, w133_1390, w133_1391, w133_1394, w133_1396, w133_1399, w133_1400, w133_1402, w133_1403, w133_1406, w133_1408, ks_0, t4, t6, t7, t8, n2, u0, u2, u3, ↓reduceIte, Option.toList_some, Option.toList_none, List.cons_append, List.nil_append]
        exact fin
    · have hz' : ¬ nI (partV (x >>> (nI 20 &&& 31)) 4) ≤ nI 0 := nI_ge (by omega) (by have := partV_lt (x >>> (nI 20 &&& 31)) (d := 4) (by omega); omega)
      rw [w133_1286]
      simp only [w133_1288, w133_1291, w133_1293, w133_1295, w133_1296, w133_1297, w133_1300, w133_1303, nI_ne1, q_partC (d := 4) (by omega) (by omega), hz', ↓reduceIte, Option.toList_some, Option.toList_none, List.cons_append, List.nil_append]
      exact kk n' _ _ σ hK FZ.rf (Or.inl rfl)
  · rw [w133_1286]
    simp only [w133_1288, ↓reduceIte, Option.toList_some, Option.toList_none, List.cons_append, List.nil_append]
    exact kk n' _ _ σ hK FZ.rf (Or.inl rfl)
theorem l_main (hN : N < 2 ^ 31) (htn : tn ≤ 23) (kk : ∀ n k p s σ {a10 a11 a12 a13 a14 a15 a16 a17 a18 a19 a20 a21 a22 a23 a24 a25 a26 a27 a28 a29 : Option Value}, KA c n k p q im h hs ht m bg bx L tx f s σ → TF c σ → KN c n → n 20 ≤ 4 * tn → Wq (some (N, xs)) 133 1419 [some (.retAddr 0), some (.ref (0 : Nat)), some (.ref (118 : Nat)), some (.ref (119 : Nat)), some (.ref (120 : Nat)), some (.int (nI (c 0))), some (.int (nI (c 2))), some (.int (nI (c 3))), some (.int (nI tn)), some (.int (nI tn)), a10, a11, a12, a13, a14, a15, a16, a17, a18, a19, a20, a21, a22, a23, a24, a25, a26, a27, a28, a29] [] σ Q) : ∀ (f' i : Nat) (n : Nat → Nat) (k : Nat) (p : Nat → Nat → Nat) (s : Nat) (σ : dm_G) {a10 a11 a12 a13 a14 a15 a16 a17 a18 a19 a20 a21 a22 a23 a24 a25 a26 a27 a28 a29 : Option Value}, i + f' = tn → KA c n k p q im h hs ht m bg bx L tx f s σ → TF c σ → KN c n → n 20 ≤ 4 * i → Wq (some (N, xs)) 133 82 [some (.retAddr 0), some (.ref (0 : Nat)), some (.ref (118 : Nat)), some (.ref (119 : Nat)), some (.ref (120 : Nat)), some (.int (nI (c 0))), some (.int (nI (c 2))), some (.int (nI (c 3))), some (.int (nI tn)), some (.int (nI i)), a10, a11, a12, a13, a14, a15, a16, a17, a18, a19, a20, a21, a22, a23, a24, a25, a26, a27, a28, a29] [] σ Q := by
  intro f'
  induction f' with
  | zero =>
    intro i n k p s σ a10 a11 a12 a13 a14 a15 a16 a17 a18 a19 a20 a21 a22 a23 a24 a25 a26 a27 a28 a29 hi hK hT hKN h20
    obtain rfl : i = tn := by omega
    rw [w133_82]
    simp only [w133_84, w133_86, nI_le (Nat.le_refl i) (show i < 2 ^ 31 by omega), ↓reduceIte, Option.toList_some, Option.toList_none, List.cons_append, List.nil_append]
    exact kk n k p s σ hK hT hKN h20
  | succ f' ih =>
    intro i n k p s σ a10 a11 a12 a13 a14 a15 a16 a17 a18 a19 a20 a21 a22 a23 a24 a25 a26 a27 a28 a29 hi hK hT hKN h20
    obtain ⟨x, g, e, y, at', kn, hd, how, hG, hh, eA⟩ := lA (N := N) (xs := xs) (tn := tn) (i := i) (a10 := a10) (a11 := a11) (a12 := a12) (a13 := a13) (a14 := a14) (a15 := a15) (a16 := a16) (a17 := a17) (a18 := a18) (a19 := a19) (a20 := a20) (a21 := a21) (a22 := a22) (a23 := a23) (a24 := a24) (a25 := a25) (a26 := a26) (a27 := a27) (a28 := a28) (a29 := a29) hN hK hT.1 (by omega)
    obtain ⟨did, n', k', p', s', τ, u24, u25, u26, eB, K1, F1, D1, hd1⟩ := lB (N := N) (xs := xs) (tn := tn) (i := i) (x := x) (a24 := a24) (a25 := a25) (a26 := a26) (a27 := a27) (a28 := a28) (a29 := a29) hK hG (by omega) hT.1 hh
    have hk16 := hK.1.2.2.1.1
    rw [w133_82]
    simp only [w133_84, w133_86, nI_ge (show i < tn by omega) (show tn < 2 ^ 31 by omega), ↓reduceIte, Option.toList_some, Option.toList_none, List.cons_append, List.nil_append]
    rw [eA, eB, lC K1 hk16 D1 (by
      rcases hd1 with ⟨h1, h2, -⟩ | ⟨h1, -, h2, -⟩
      · exact Or.inl ⟨h1, h2⟩
      · exact Or.inr ⟨h1, h2⟩)]
    have T1 := TF_F hT F1
    have KN1 : KN c n' := fun g hg j hj => D1.2.2.2 g hg j (hKN g hg j hj)
    refine lDF K1 T1 KN1 (fun v24 v25 v26 v27 v28 v29 => ?_)
    refine lG K1 hk16 hG hd1 (fun n2 k2 p2 τ2 K2 F2 hn2 => ?_)
    simp only [w133_1413, w133_1416, nI_add]
    refine ih (i + 1) n2 k2 p2 s' τ2 (by omega) K2 (TF_F T1 F2) ?_ ?_
    · rcases hn2 with rfl | rfl
      · exact KN1
      · exact hKN
    · have := D1.2.1
      rcases hn2 with rfl | rfl
      · omega
      · omega
end LW6
