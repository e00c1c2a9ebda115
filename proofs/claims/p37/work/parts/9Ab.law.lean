/-! the law's acts: a night, a wall -/
/-- what no act takes back -/
def Dn (c n n' : Nat → Nat) : Prop := n 20 ≤ n' 20 ∧ n' 20 ≤ n 20 + 4 ∧ n 21 ≤ n' 21 ∧ ∀ g, g < c 2 → ∀ j, (n (6 + g)).testBit j = true → (n' (6 + g)).testBit j = true
section LW2
variable {N : Nat} {xs : Nat → Int32} {σ : dm_G} {Q : Option Value → dm_G → Prop} {tn i : Nat} {x : Int32} {g e y at' kn hd how : Nat} {a10 a11 a12 a13 a14 a15 a16 a17 a18 a19 a20 a21 a22 a23 a24 a25 a26 a27 a28 a29 : Option Value} {c n : Nat → Nat} {k : Nat} {p : Nat → Nat → Nat} {q : Nat} {im : Nat → Nat → Nat} {h : Nat} {hs ht : Nat → Nat} {m : Nat} {bg bx : Nat → Nat} {L : Nat} {tx : Nat → Nat} {f : Int32} {s : Nat}
theorem lB_night (hK : KA c n k p q im h hs ht m bg bx L tx f s σ) (hG : GA c n g e y at' kn hd) (hI : n 20 ≤ 1000) (h0 : 1 ≤ c 0) (hh : how < 2) : ∃ (did : Nat) (n' : Nat → Nat) (k' : Nat) (p' : Nat → Nat → Nat) (s' : Nat) (τ : dm_G) (u24 u25 u26 : Option Value), (∀ Q, Wq (some (N, xs)) 133 258 [some (.retAddr 0), some (.ref (0 : Nat)), some (.ref (118 : Nat)), some (.ref (119 : Nat)), some (.ref (120 : Nat)), some (.int (nI (c 0))), some (.int (nI (c 2))), some (.int (nI (c 3))), some (.int (nI tn)), some (.int (nI i)), some (.int x), some (.int (nI k)), some (.int (nI (n 20))), some (.int (nI (n 19))), some (.int (nI (n 18))), some (.int (nI (n 21))), some (.int (nI g)), some (.int (nI e)), some (.int (nI y)), some (.int (nI at')), some (.int (nI kn)), some (.int (nI hd)), some (.int (nI how)), some (.int (nI 1)), a24, a25, a26, a27, a28, a29] [] σ Q = Wq (some (N, xs)) 133 978 [some (.retAddr 0), some (.ref (0 : Nat)), some (.ref (118 : Nat)), some (.ref (119 : Nat)), some (.ref (120 : Nat)), some (.int (nI (c 0))), some (.int (nI (c 2))), some (.int (nI (c 3))), some (.int (nI tn)), some (.int (nI i)), some (.int x), some (.int (nI k)), some (.int (nI (n 20))), some (.int (nI (n 19))), some (.int (nI (n 18))), some (.int (nI (n 21))), some (.int (nI g)), some (.int (nI e)), some (.int (nI y)), some (.int (nI at')), some (.int (nI kn)), some (.int (nI hd)), some (.int (nI how)), some (.int (nI did)), u24, u25, u26, a27, a28, a29] [] τ Q) ∧ KA c n' k' p' q im h hs ht m bg bx L tx f s' τ ∧ FZ σ τ ∧ Dn c n n' ∧ ((did = 1 ∧ k' = min (k + 1) 16 ∧ p' = pushP n p) ∨ (did = 0 ∧ n' = n ∧ k' = k ∧ p' = p)) := by
  have w2 := hK.1.1.2.1
  have hj : partV (x >>> (nI 13 &&& 31)) 4 < 4 := partV_lt _ (by omega)
  generalize hje : partV (x >>> (nI 13 &&& 31)) 4 = j at hj
  obtain ⟨τ, e1, K1, k1⟩ := q_night (j := 1 + j) hK (by omega) (by omega) (by omega) (by omega)
  have c1 := fun Q => Cq_of (Q := Q) e1
  have td := fun Q j (hj : j < 14) => Cq_of (Q := Q) (q_told (j := j) K1 hj)
  have t6 := fun Q => td Q 6 (by omega)
  have t7 := fun Q => td Q 7 (by omega)
  have t8 := fun Q => td Q 8 (by omega)
  have b6 : up1 (up1 n 20 (n 20 + (1 + j))) 18 0 19 = n 19 := by rw [up1_ne (by omega), up1_ne (by omega)]
  have b7 : up1 (up1 n 20 (n 20 + (1 + j))) 18 0 18 = 0 := up1_eq
  have b8 : up1 (up1 n 20 (n 20 + (1 + j))) 18 0 21 = n 21 := by rw [up1_ne (by omega), up1_ne (by omega)]
  simp only [tdN, b6, b7, b8] at t6 t7 t8
  refine ⟨1, _, _, _, s, τ, some (.int (nI (1 + j))), a25, a26, fun Q => ?_, K1, k1, ⟨?_, ?_, ?_, ?_⟩, Or.inl ⟨rfl, rfl, rfl⟩⟩
  · rw [w133_258]
    simp only [w133_260, w133_261, w133_264, w133_265, w133_267, w133_269, w133_270, w133_271, w133_274, w133_275, w133_277, w133_278, w133_280, w133_283, w133_285, w133_287, w133_288, w133_291, w133_292, w133_294, w133_297, w133_300, w133_301, w133_303, w133_306, w133_308, w133_311, w133_312, w133_314, w133_317, w133_319, w133_324, nI_ge hh (show 2 < 2 ^ 31 by omega), q_partC (d := 4) (by omega) (by omega), hje, nI_add, ks_0, c1, t6, t7, t8, ↓reduceIte, Option.toList_some, Option.toList_none, List.cons_append, List.nil_append]
  · rw [up1_ne (by omega), up1_eq]; omega
  · rw [up1_ne (by omega), up1_eq]; omega
  · rw [b8]; exact Nat.le_refl _
  · intro g hg b hb
    rw [up1_ne (by omega), up1_ne (by omega)]
    exact hb
theorem lB_wall (hK : KA c n k p q im h hs ht m bg bx L tx f s σ) (hG : GA c n g e y at' kn hd) (hI : n 20 ≤ 1000) (h0 : 1 ≤ c 0) (hh : how = 6) : ∃ (did : Nat) (n' : Nat → Nat) (k' : Nat) (p' : Nat → Nat → Nat) (s' : Nat) (τ : dm_G) (u24 u25 u26 : Option Value), (∀ Q, Wq (some (N, xs)) 133 258 [some (.retAddr 0), some (.ref (0 : Nat)), some (.ref (118 : Nat)), some (.ref (119 : Nat)), some (.ref (120 : Nat)), some (.int (nI (c 0))), some (.int (nI (c 2))), some (.int (nI (c 3))), some (.int (nI tn)), some (.int (nI i)), some (.int x), some (.int (nI k)), some (.int (nI (n 20))), some (.int (nI (n 19))), some (.int (nI (n 18))), some (.int (nI (n 21))), some (.int (nI g)), some (.int (nI e)), some (.int (nI y)), some (.int (nI at')), some (.int (nI kn)), some (.int (nI hd)), some (.int (nI how)), some (.int (nI 1)), a24, a25, a26, a27, a28, a29] [] σ Q = Wq (some (N, xs)) 133 978 [some (.retAddr 0), some (.ref (0 : Nat)), some (.ref (118 : Nat)), some (.ref (119 : Nat)), some (.ref (120 : Nat)), some (.int (nI (c 0))), some (.int (nI (c 2))), some (.int (nI (c 3))), some (.int (nI tn)), some (.int (nI i)), some (.int x), some (.int (nI k)), some (.int (nI (n 20))), some (.int (nI (n 19))), some (.int (nI (n 18))), some (.int (nI (n 21))), some (.int (nI g)), some (.int (nI e)), some (.int (nI y)), some (.int (nI at')), some (.int (nI kn)), some (.int (nI hd)), some (.int (nI how)), some (.int (nI did)), u24, u25, u26, a27, a28, a29] [] τ Q) ∧ KA c n' k' p' q im h hs ht m bg bx L tx f s' τ ∧ FZ σ τ ∧ Dn c n n' ∧ ((did = 1 ∧ k' = min (k + 1) 16 ∧ p' = pushP n p) ∨ (did = 0 ∧ n' = n ∧ k' = k ∧ p' = p)) := by
  have w0 := hK.1.1.1
  have w2 := hK.1.1.2.1
  have hy := hG.2.2.2.2
  have p8 : 2 ^ c 0 ≤ 2 ^ 8 := Nat.pow_le_pow_right (by decide) w0
  have hn19 : n 19 < 2 ^ c 0 := hK.1.2.1.2.2.1
  obtain ⟨b, hb2, eb⟩ : ∃ b, b < 2 ∧ ∀ (Q' : Option Value → dm_G → Prop), Wq (some (N, xs)) 133 562 [some (.retAddr 0), some (.ref (0 : Nat)), some (.ref (118 : Nat)), some (.ref (119 : Nat)), some (.ref (120 : Nat)), some (.int (nI (c 0))), some (.int (nI (c 2))), some (.int (nI (c 3))), some (.int (nI tn)), some (.int (nI i)), some (.int x), some (.int (nI k)), some (.int (nI (n 20))), some (.int (nI (n 19))), some (.int (nI (n 18))), some (.int (nI (n 21))), some (.int (nI g)), some (.int (nI e)), some (.int (nI y)), some (.int (nI at')), some (.int (nI kn)), some (.int (nI hd)), some (.int (nI how)), some (.int (nI 1)), a24, a25, a26, a27, a28, a29] [.int (nI 2), .int (x >>> (nI 13 &&& 31))] σ Q' = Wq (some (N, xs)) 133 573 [some (.retAddr 0), some (.ref (0 : Nat)), some (.ref (118 : Nat)), some (.ref (119 : Nat)), some (.ref (120 : Nat)), some (.int (nI (c 0))), some (.int (nI (c 2))), some (.int (nI (c 3))), some (.int (nI tn)), some (.int (nI i)), some (.int x), some (.int (nI k)), some (.int (nI (n 20))), some (.int (nI (n 19))), some (.int (nI (n 18))), some (.int (nI (n 21))), some (.int (nI g)), some (.int (nI e)), some (.int (nI y)), some (.int (nI at')), some (.int (nI kn)), some (.int (nI hd)), some (.int (nI how)), some (.int (nI 1)), a24, a25, a26, a27, a28, a29] [.int (nI b)] σ Q' := by
    by_cases hb : partV (x >>> (nI 13 &&& 31)) 2 = 0
    · refine ⟨1, by omega, fun Q' => ?_⟩
      simp only [w133_562, w133_565, w133_568, w133_569, w133_572, q_partC (d := 2) (by omega) (by omega), hb, ↓reduceIte, Option.toList_some, Option.toList_none, List.cons_append, List.nil_append]
    · have hb' : ¬ nI (partV (x >>> (nI 13 &&& 31)) 2) = nI 0 := fun z => hb (nI_inj (by have := partV_lt (x >>> (nI 13 &&& 31)) (d := 2) (by omega); omega) (by omega) z)
      refine ⟨0, by omega, fun Q' => ?_⟩
      simp only [w133_562, w133_565, w133_568, w133_569, w133_572, q_partC (d := 2) (by omega) (by omega), hb', ↓reduceIte, Option.toList_some, Option.toList_none, List.cons_append, List.nil_append]
  obtain ⟨τ, e1, K1, k1⟩ := q_wall (e := y) (b := b) hK hy hb2
  have c1 := fun Q => Cq_of (Q := Q) e1
  have t6 := fun Q => Cq_of (Q := Q) (q_told (j := 6) K1 (by omega))
  simp only [tdN, up1_eq] at t6
  have h2 : ¬ nI how < nI 2 := nI_nlt (by omega) (by omega)
  have g2 : nI 2 ≤ nI how := nI_le (by omega) (by omega)
  have g6 : nI 6 ≤ nI how := nI_le (by omega) (by omega)
  have e6 : nI how = nI 6 := by rw [hh]
  refine ⟨1, _, _, _, s, τ, some (.int (nI b)), a25, a26, fun Q => ?_, K1, k1, ⟨?_, ?_, ?_, ?_⟩, Or.inl ⟨rfl, rfl, rfl⟩⟩
  · rw [w133_258]
    simp only [w133_260, w133_261, w133_327, w133_329, w133_331, w133_549, w133_551, w133_553, w133_556, w133_558, w133_560, w133_561, g2, g6, e6, nI_le (show 2 ≤ 6 by omega) (show 6 < 2 ^ 31 by omega), nI_le (Nat.le_refl 6) (show 6 < 2 ^ 31 by omega), ↓reduceIte, Option.toList_some, Option.toList_none, List.cons_append, List.nil_append]
    have eb' := eb
    simp only [e6] at eb'
    rw [eb']
    rcases (by omega : b = 0 ∨ b = 1) with rfl | rfl
    · have e0 : waN (n 19) y 0 = andn (n 19) (1 <<< y) := if_pos rfl
      rw [e0] at t6
      simp only [w133_573, w133_575, w133_576, w133_578, w133_580, w133_583, w133_585, w133_587, w133_588, w133_589, w133_590, w133_593, w133_594, w133_596, w133_599, w133_601, w133_604, w133_606, w133_607, w133_609, w133_610, w133_611, w133_614, w133_616, w133_617, w133_619, w133_620, w133_621, w133_622, w133_623, w133_626, w133_627, w133_628, ks_0, c1, nI_bit (show n 19 < 2 ^ 31 by omega) (show y < 32 by omega), t6, nI_shl 1 (show y < 32 by omega), nI_andn, ↓reduceIte, Option.toList_some, Option.toList_none, List.cons_append, List.nil_append]
    · have e0 : waN (n 19) y 1 = n 19 ||| 1 <<< y := if_neg (by decide)
      rw [e0] at t6
      simp only [w133_573, w133_575, w133_576, w133_578, w133_580, w133_583, w133_585, w133_587, w133_588, w133_589, w133_590, w133_593, w133_594, w133_596, w133_599, w133_601, w133_604, w133_606, w133_607, w133_609, w133_610, w133_611, w133_614, w133_616, w133_617, w133_619, w133_620, w133_621, w133_622, w133_623, w133_626, w133_627, w133_628, ks_0, c1, nI_bit (show n 19 < 2 ^ 31 by omega) (show y < 32 by omega), t6, nI_shl 1 (show y < 32 by omega), nI_or, nI_ne1, ↓reduceIte, Option.toList_some, Option.toList_none, List.cons_append, List.nil_append]
  · rw [up1_ne (by omega)]; exact Nat.le_refl _
  · rw [up1_ne (by omega)]; omega
  · rw [up1_ne (by omega)]; exact Nat.le_refl _
  · intro g hg b hb
    rw [up1_ne (by omega)]
    exact hb
end LW2
