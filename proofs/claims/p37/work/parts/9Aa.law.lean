/-! the law's first loop: what is read before an act -/
/-- who acts, for whom, where; how all is with him before -/
def GA (c n : Nat → Nat) (g e y at' kn hd : Nat) : Prop := (0 < c 2 → g < c 2 ∧ at' = n g ∧ kn = n (6 + g) ∧ hd = n (12 + g)) ∧ (c 2 = 0 → g = 0 ∧ at' = 0 ∧ kn = 0 ∧ hd = 0) ∧ (0 < c 3 → e < c 3) ∧ (c 3 = 0 → e = 0) ∧ y < c 0
section LW1
variable {N : Nat} {xs : Nat → Int32} {σ : dm_G} {Q : Option Value → dm_G → Prop} {tn i : Nat} {a10 a11 a12 a13 a14 a15 a16 a17 a18 a19 a20 a21 a22 a23 a24 a25 a26 a27 a28 a29 : Option Value} {c n : Nat → Nat} {k : Nat} {p : Nat → Nat → Nat} {q : Nat} {im : Nat → Nat → Nat} {h : Nat} {hs ht : Nat → Nat} {m : Nat} {bg bx : Nat → Nat} {L : Nat} {tx : Nat → Nat} {f : Int32} {s : Nat}
theorem lA (hN : N < 2 ^ 31) (hK : KA c n k p q im h hs ht m bg bx L tx f s σ) (h0 : 1 ≤ c 0) (hi : i < 2 ^ 20) : ∃ x g e y at' kn hd how, GA c n g e y at' kn hd ∧ how < 12 ∧ ∀ Q, Wq (some (N, xs)) 133 89 [some (.retAddr 0), some (.ref (0 : Nat)), some (.ref (118 : Nat)), some (.ref (119 : Nat)), some (.ref (120 : Nat)), some (.int (nI (c 0))), some (.int (nI (c 2))), some (.int (nI (c 3))), some (.int (nI tn)), some (.int (nI i)), a10, a11, a12, a13, a14, a15, a16, a17, a18, a19, a20, a21, a22, a23, a24, a25, a26, a27, a28, a29] [] σ Q = Wq (some (N, xs)) 133 258 [some (.retAddr 0), some (.ref (0 : Nat)), some (.ref (118 : Nat)), some (.ref (119 : Nat)), some (.ref (120 : Nat)), some (.int (nI (c 0))), some (.int (nI (c 2))), some (.int (nI (c 3))), some (.int (nI tn)), some (.int (nI i)), some (.int x), some (.int (nI k)), some (.int (nI (n 20))), some (.int (nI (n 19))), some (.int (nI (n 18))), some (.int (nI (n 21))), some (.int (nI g)), some (.int (nI e)), some (.int (nI y)), some (.int (nI at')), some (.int (nI kn)), some (.int (nI hd)), some (.int (nI how)), some (.int (nI 1)), a24, a25, a26, a27, a28, a29] [] σ Q := by
  have hx : ∀ Q' σ, Cs (some (N, xs)) 125 [.retAddr 0, .int (nI (18 + i))] σ Q' = Q' (some (.int (cellV N xs (18 + i)))) σ := fun Q' σ => q_cellC (by omega) hN
  generalize cellV N xs (18 + i) = x at hx
  have td := fun Q j (hj : j < 14) => Cq_of (Q := Q) (q_told (j := j) hK hj)
  have t4 := fun Q => td Q 4 (by omega)
  have t6 := fun Q => td Q 6 (by omega)
  have t7 := fun Q => td Q 7 (by omega)
  have t8 := fun Q => td Q 8 (by omega)
  have t13 := fun Q => td Q 13 (by omega)
  simp only [tdN] at t4 t6 t7 t8 t13
  have w0 := hK.1.1.1
  have w2 := hK.1.1.2.1
  have w3 := hK.1.1.2.2.1
  have hy : partV (x >>> (nI 10 &&& 31)) (c 0) < c 0 := partV_lt _ (by omega)
  have hh : partV x 12 < 12 := partV_lt _ (by omega)
  generalize hye : partV (x >>> (nI 10 &&& 31)) (c 0) = y at hy
  generalize hhe : partV x 12 = how at hh
  obtain ⟨e, he1, he2, ee⟩ : ∃ e, (0 < c 3 → e < c 3) ∧ (c 3 = 0 → e = 0) ∧ ∀ (Q' : Option Value → dm_G → Prop) (g : Nat), Wq (some (N, xs)) 133 159 [some (.retAddr 0), some (.ref (0 : Nat)), some (.ref (118 : Nat)), some (.ref (119 : Nat)), some (.ref (120 : Nat)), some (.int (nI (c 0))), some (.int (nI (c 2))), some (.int (nI (c 3))), some (.int (nI tn)), some (.int (nI i)), some (.int x), some (.int (nI k)), some (.int (nI (n 20))), some (.int (nI (n 19))), some (.int (nI (n 18))), some (.int (nI (n 21))), some (.int (nI g)), a17, a18, a19, a20, a21, a22, a23, a24, a25, a26, a27, a28, a29] [] σ Q' = Wq (some (N, xs)) 133 180 [some (.retAddr 0), some (.ref (0 : Nat)), some (.ref (118 : Nat)), some (.ref (119 : Nat)), some (.ref (120 : Nat)), some (.int (nI (c 0))), some (.int (nI (c 2))), some (.int (nI (c 3))), some (.int (nI tn)), some (.int (nI i)), some (.int x), some (.int (nI k)), some (.int (nI (n 20))), some (.int (nI (n 19))), some (.int (nI (n 18))), some (.int (nI (n 21))), some (.int (nI g)), some (.int (nI e)), a18, a19, a20, a21, a22, a23, a24, a25, a26, a27, a28, a29] [] σ Q' := by
    by_cases z3 : c 3 = 0
    · refine ⟨0, fun h => by omega, fun _ => rfl, fun Q' g => ?_⟩
      rw [w133_159]
      simp only [w133_161, w133_164, w133_165, w133_168, w133_170, w133_172, w133_173, w133_175, w133_178, z3, ↓reduceIte, Option.toList_some, Option.toList_none, List.cons_append, List.nil_append]
    · have n3 : ¬ nI (c 3) = nI 0 := fun z => z3 (nI_inj (by omega) (by omega) z)
      refine ⟨partV (x >>> (nI 7 &&& 31)) (c 3), fun _ => partV_lt _ (by omega), fun h => absurd h z3, fun Q' g => ?_⟩
      rw [w133_159]
      simp only [w133_161, w133_164, w133_165, w133_168, w133_170, w133_172, w133_173, w133_175, w133_178, n3, q_partC (d := c 3) (by omega) (by omega), ↓reduceIte, Option.toList_some, Option.toList_none, List.cons_append, List.nil_append]
  by_cases z2 : c 2 = 0
  · have e2 : nI (c 2) = nI 0 := by rw [z2]
    refine ⟨x, 0, e, y, 0, 0, 0, how, ⟨fun h => by omega, fun _ => ⟨rfl, rfl, rfl, rfl⟩, he1, he2, hy⟩, hh, fun Q => ?_⟩
    rw [w133_89]
    simp only [w133_90, w133_92, w133_94, w133_95, w133_98, w133_100, w133_101, w133_103, w133_106, w133_108, w133_109, w133_110, w133_113, w133_115, w133_116, w133_118, w133_121, w133_123, w133_124, w133_126, w133_129, w133_131, w133_132, w133_134, w133_137, w133_139, w133_141, w133_144, w133_145, w133_148, w133_150, w133_151, w133_152, w133_154, w133_157, nI_add, hx, ks_0, t13, t4, t6, t7, t8, e2, ↓reduceIte, Option.toList_some, Option.toList_none, List.cons_append, List.nil_append]
    have ee' := ee
    simp only [e2] at ee'
    rw [ee']
    simp only [w133_180, w133_182, w133_184, w133_185, w133_187, w133_190, w133_192, w133_194, w133_197, w133_198, w133_201, w133_202, w133_204, w133_205, w133_208, w133_210, w133_212, w133_215, w133_216, w133_219, w133_220, w133_222, w133_223, w133_226, w133_228, w133_230, w133_233, w133_234, w133_237, w133_238, w133_240, w133_241, w133_244, w133_246, w133_248, w133_250, w133_253, w133_255, w133_256, q_partC (d := c 0) (by omega) (by omega), hye, q_partC (d := 12) (by omega) (by omega), hhe, ↓reduceIte, Option.toList_some, Option.toList_none, List.cons_append, List.nil_append]
  · have n2 : ¬ nI (c 2) = nI 0 := fun z => z2 (nI_inj (by omega) (by omega) z)
    have hg : partV (x >>> (nI 4 &&& 31)) (c 2) < c 2 := partV_lt _ (by omega)
    generalize hge : partV (x >>> (nI 4 &&& 31)) (c 2) = g at hg
    have g0 := fun Q => Cq_of (Q := Q) (q_guide (j := 0) hK hg (by omega))
    have g2 := fun Q => Cq_of (Q := Q) (q_guide (j := 2) hK hg (by omega))
    have g3 := fun Q => Cq_of (Q := Q) (q_guide (j := 3) hK hg (by omega))
    simp only [gdN] at g0 g2 g3
    refine ⟨x, g, e, y, n g, n (6 + g), n (12 + g), how, ⟨fun _ => ⟨hg, rfl, rfl, rfl⟩, fun h => absurd h z2, he1, he2, hy⟩, hh, fun Q => ?_⟩
    rw [w133_89]
    simp only [w133_90, w133_92, w133_94, w133_95, w133_98, w133_100, w133_101, w133_103, w133_106, w133_108, w133_109, w133_110, w133_113, w133_115, w133_116, w133_118, w133_121, w133_123, w133_124, w133_126, w133_129, w133_131, w133_132, w133_134, w133_137, w133_139, w133_141, w133_144, w133_145, w133_148, w133_150, w133_151, w133_152, w133_154, w133_157, nI_add, hx, ks_0, t13, t4, t6, t7, t8, n2, q_partC (d := c 2) (by omega) (by omega), hge, ↓reduceIte, Option.toList_some, Option.toList_none, List.cons_append, List.nil_append]
    rw [ee]
    simp only [w133_180, w133_182, w133_184, w133_185, w133_187, w133_190, w133_192, w133_194, w133_197, w133_198, w133_201, w133_202, w133_204, w133_205, w133_208, w133_210, w133_212, w133_215, w133_216, w133_219, w133_220, w133_222, w133_223, w133_226, w133_228, w133_230, w133_233, w133_234, w133_237, w133_238, w133_240, w133_241, w133_244, w133_246, w133_248, w133_250, w133_253, w133_255, w133_256, q_partC (d := c 0) (by omega) (by omega), hye, q_partC (d := 12) (by omega) (by omega), hhe, n2, ks_0, g0, g2, g3, ↓reduceIte, Option.toList_some, Option.toList_none, List.cons_append, List.nil_append]
end LW1
