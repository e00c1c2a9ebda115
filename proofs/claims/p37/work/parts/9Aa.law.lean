/-! the law's first loop: what is read before an act -/
/-- who acts, for whom, where; how all is with him before -/
def GA (c n : Nat → Nat) (g e y at' kn hd : Nat) : Prop := (0 < c 2 → g < c 2 ∧ at' = n g ∧ kn = n (6 + g) ∧ hd = n (12 + g)) ∧ (c 2 = 0 → g = 0 ∧ at' = 0 ∧ kn = 0 ∧ hd = 0) ∧ (0 < c 3 → e < c 3) ∧ (c 3 = 0 → e = 0) ∧ y < c 0
section LW1
variable {N : Nat} {xs : Nat → Int32} {σ : dm_G} {Q : Option Value → dm_G → Prop} {tn i : Nat} {a10 a11 a12 a13 a14 a15 a16 a17 a18 a19 a20 a21 a22 a23 a24 a25 a26 a27 a28 a29 : Option Value} {c n : Nat → Nat} {k : Nat} {p : Nat → Nat → Nat} {q : Nat} {im : Nat → Nat → Nat} {h : Nat} {hs ht : Nat → Nat} {m : Nat} {bg bx : Nat → Nat} {L : Nat} {tx : Nat → Nat} {f : Int32} {s : Nat}
theorem lA (hN : N < 2 ^ 31) (hK : KA c n k p q im h hs ht m bg bx L tx f s σ) (h0 : 1 ≤ c 0) (hi : i < 2 ^ 20) : ∃ x g e y at' kn hd how, GA c n g e y at' kn hd ∧ how < 12 ∧ ∀ Q, Wq (some (N, xs)) 132 89 [some (.retAddr 0), some (.ref (0 : Nat)), some (.ref (118 : Nat)), some (.ref (119 : Nat)), some (.ref (120 : Nat)), some (.int (nI (c 0))), some (.int (nI (c 2))), some (.int (nI (c 3))), some (.int (nI tn)), some (.int (nI i)), a10, a11, a12, a13, a14, a15, a16, a17, a18, a19, a20, a21, a22, a23, a24, a25, a26, a27, a28, a29] [] σ Q = Wq (some (N, xs)) 132 258 [some (.retAddr 0), some (.ref (0 : Nat)), some (.ref (118 : Nat)), some (.ref (119 : Nat)), some (.ref (120 : Nat)), some (.int (nI (c 0))), some (.int (nI (c 2))), some (.int (nI (c 3))), some (.int (nI tn)), some (.int (nI i)), some (.int x), some (.int (nI k)), some (.int (nI (n 20))), some (.int (nI (n 19))), some (.int (nI (n 18))), some (.int (nI (n 21))), some (.int (nI g)), some (.int (nI e)), some (.int (nI y)), some (.int (nI at')), some (.int (nI kn)), some (.int (nI hd)), some (.int (nI how)), some (.int (nI 1)), a24, a25, a26, a27, a28, a29] [] σ Q := by
  have hx : ∀ Q' σ, Cs (some (N, xs)) 124 [.retAddr 0, .int (nI (18 + i))] σ Q' = Q' (some (.int (cellV N xs (18 + i)))) σ := fun Q' σ => q_cellC (by omega) hN
  generalize cellV N xs (18 + i) = x at hx
  have td := fun Q j (hj : j < 14) => Cq_of (Q := Q) (q_told (j := j) hK hj)
  have t4 := fun Q => td Q 4 (by omega)
  have t6 := fun Q => td Q 6 (by omega)
  have t7 := fun Q => td Q 7 (by omega)
  have t8 := fun Q => td Q 8 (by omega)
  have t13 := fun Q => td Q 13 (by omega)
  simp only [tdN] at t4 t6 t7 t8 t13
  have w0 := hK.1.1.1
  have w2 := hK.1.1.2.1
  have w3 := hK.1.1.2.2.1
  have hy : partV (x >>> (nI 10 &&& 31)) (c 0) < c 0 := partV_lt _ (by omega)
  have hh : partV x 12 < 12 := partV_lt _ (by omega)
  generalize hye : partV (x >>> (nI 10 &&& 31)) (c 0) = y at hy
  generalize hhe : partV x 12 = how at hh
  obtain ⟨e, he1, he2, ee⟩ : ∃ e, (0 < c 3 → e < c 3) ∧ (c 3 = 0 → e = 0) ∧ ∀ (Q' : Option Value → dm_G → Prop) (g : Nat), Wq (some (N, xs)) 132 159 [some (.retAddr 0), some (.ref (0 : Nat)), some (.ref (118 : Nat)), some (.ref (119 : Nat)), some (.ref (120 : Nat)), some (.int (nI (c 0))), some (.int (nI (c 2))), some (.int (nI (c 3))), some (.int (nI tn)), some (.int (nI i)), some (.int x), some (.int (nI k)), some (.int (nI (n 20))), some (.int (nI (n 19))), some (.int (nI (n 18))), some (.int (nI (n 21))), some (.int (nI g)), a17, a18, a19, a20, a21, a22, a23, a24, a25, a26, a27, a28, a29] [] σ Q' = Wq (some (N, xs)) 132 180 [some (.retAddr 0), some (.ref (0 : Nat)), some (.ref (118 : Nat)), some (.ref (119 : Nat)), some (.ref (120 : Nat)), some (.int (nI (c 0))), some (.int (nI (c 2))), some (.int (nI (c 3))), some (.int (nI tn)), some (.int (nI i)), some (.int x), some (.int (nI k)), some (.int (nI (n 20))), some (.int (nI (n 19))), some (.int (nI (n 18))), some (.int (nI (n 21))), some (.int (nI g)), some (.int (nI e)), a18, a19, a20, a21, a22, a23, a24, a25, a26, a27, a28, a29] [] σ Q' := by
    by_cases z3 : c 3 = 0
    · refine ⟨0, fun h => by omega, fun _ => rfl, fun Q' g => ?_⟩
      rw [w132_159]
      simp only [w132_161, w132_164, w132_165, w132_168, w132_170, w132_172, w132_173, w132_175, w132_178, z3, ↓reduceIte, Option.toList_some, Option.toList_none, List.cons_append, List.nil_append]
    · have n3 : ¬ nI (c 3) = nI 0 := fun z => z3 (nI_inj (by omega) (by omega) z)
      refine ⟨partV (x >>> (nI 7 &&& 31)) (c 3), fun _ => partV_lt _ (by omega), fun h => absurd h z3, fun Q' g => ?_⟩
      rw [w132_159]
      simp only [w132_161, w132_164, w132_165, w132_168, w132_170, w132_172, w132_173, w132_175, w132_178, n3, q_partC (d := c 3) (by omega) (by omega), ↓reduceIte, Option.toList_some, Option.toList_none, List.cons_append, List.nil_append]
  by_cases z2 : c 2 = 0
  · have e2 : nI (c 2) = nI 0 := by rw [z2]
    refine ⟨x, 0, e, y, 0, 0, 0, how, ⟨fun h => by omega, fun _ => ⟨rfl, rfl, rfl, rfl⟩, he1, he2, hy⟩, hh, fun Q => ?_⟩
    rw [w132_89]
    simp only [w132_90, w132_92, w132_94, w132_95, w132_98, w132_100, w132_101, w132_103, w132_106, w132_108, w132_109, w132_110, w132_113, w132_115, w132_116, w132_118, w132_121, w132_123, w132_124, w132_126, w132_129, w132_131, w132_132, w132_134, w132_137, w132_139, w132_141, w132_144, w132_145, w132_148, w132_150, w132_151, w132_152, w132_154, w132_157, nI_add, hx, ks_0, t13, t4, t6, t7, t8, e2, ↓reduceIte, Option.toList_some, Option.toList_none, List.cons_append, List.nil_append]
    have ee' := ee
    simp only [e2] at ee'
    rw [ee']
    simp only [w132_180, w132_182, w132_184, w132_185, w132_187, w132_190, w132_192, w132_194, w132_197, w132_198, w132_201, w132_202, w132_204, w132_205, w132_208, w132_210, w132_212, w132_215, w132_216, w132_219, w132_220, w132_222, w132_223, w132_226, w132_228, w132_230, w132_233, w132_234, w132_237, w132_238, w132_240, w132_241, w132_244, w132_246, w132_248, w132_250, w132_253, w132_255, w132_256, q_partC (d := c 0) (by omega) (by omega), hye, q_partC (d := 12) (by omega) (by omega), hhe, ↓reduceIte, Option.toList_some, Option.toList_none, List.cons_append, List.nil_append]
  · have n2 : ¬ nI (c 2) = nI 0 := fun z => z2 (nI_inj (by omega) (by omega) z)
    have hg : partV (x >>> (nI 4 &&& 31)) (c 2) < c 2 := partV_lt _ (by omega)
    generalize hge : partV (x >>> (nI 4 &&& 31)) (c 2) = g at hg
    have g0 := fun Q => Cq_of (Q := Q) (q_guide (j := 0) hK hg (by omega))
    have g2 := fun Q => Cq_of (Q := Q) (q_guide (j := 2) hK hg (by omega))
    have g3 := fun Q => Cq_of (Q := Q) (q_guide (j := 3) hK hg (by omega))
    simp only [gdN] at g0 g2 g3
    refine ⟨x, g, e, y, n g, n (6 + g), n (12 + g), how, ⟨fun _ => ⟨hg, rfl, rfl, rfl⟩, fun h => absurd h z2, he1, he2, hy⟩, hh, fun Q => ?_⟩
    rw [w132_89]
    simp only [w132_90, w132_92, w132_94, w132_95, w132_98, w132_100, w132_101, w132_103, w132_106, w132_108, w132_109, w132_110, w132_113, w132_115, w132_116, w132_118, w132_121, w132_123, w132_124, w132_126, w132_129, w132_131, w132_132, w132_134, w132_137, w132_139, w132_141, w132_144, w132_145, w132_148, w132_150, w132_151, w132_152, w132_154, w132_157, nI_add, hx, ks_0, t13, t4, t6, t7, t8, n2, q_partC (d := c 2) (by omega) (by omega), hge, ↓reduceIte, Option.toList_some, Option.toList_none, List.cons_append, List.nil_append]
    rw [ee]
    simp only [w132_180, w132_182, w132_184, w132_185, w132_187, w132_190, w132_192, w132_194, w132_197, w132_198, w132_201, w132_202, w132_204, w132_205, w132_208, w132_210, w132_212, w132_215, w132_216, w132_219, w132_220, w132_222, w132_223, w132_226, w132_228, w132_230, w132_233, w132_234, w132_237, w132_238, w132_240, w132_241, w132_244, w132_246, w132_248, w132_250, w132_253, w132_255, w132_256, q_partC (d := c 0) (by omega) (by omega), hye, q_partC (d := 12) (by omega) (by omega), hhe, n2, ks_0, g0, g2, g3, ↓reduceIte, Option.toList_some, Option.toList_none, List.cons_append, List.nil_append]
end LW1
