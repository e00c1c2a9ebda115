/-! the law: all pairs, ring, posing, clients, all guides -/
section LW8
variable {N : Nat} {xs : Nat → Int32} {σ : dm_G} {Q : Option Value → dm_G → Prop} {g : Nat} {a8 a13 a14 a15 a16 a17 a18 a19 a20 a21 a22 a23 a24 a25 a26 a27 a28 a29 : Option Value} {c n : Nat → Nat} {k : Nat} {p : Nat → Nat → Nat} {q : Nat} {im : Nat → Nat → Nat} {h : Nat} {hs ht : Nat → Nat} {m : Nat} {bg bx : Nat → Nat} {L : Nat} {tx : Nat → Nat} {f : Int32} {s : Nat}
theorem l_b {a : Nat} (hK : KA c n k p q im h hs ht m bg bx L tx f s σ) (hg : g < c 2) (ha : a < c 0) (kk : ∀ v18 v19 v20 v21 v22 v23, Wq (some (N, xs)) 133 1798 [some (.retAddr 0), some (.ref (0 : Nat)), some (.ref (118 : Nat)), some (.ref (119 : Nat)), some (.ref (120 : Nat)), some (.int (nI (c 0))), some (.int (nI (c 2))), some (.int (nI (c 3))), a8, some (.int (nI (n 20))), some (.int (nI (n 21))), some (.int (nI (n 19))), some (.int (nI (n 18))), some (.int (nI g)), some (.int (nI (andn (n (6 + g)) (n 19)))), some (.int (nI (sN c (n g) (andn (n (6 + g)) (n 19)) (c 0)))), some (.int (nI (n g))), some (.int (nI a)), v18, v19, v20, v21, v22, v23, a24, a25, a26, a27, a28, a29] [] σ Q) : ∀ (f' b : Nat) (v19 v20 v21 v22 v23 : Option Value), b + f' = c 0 → Wq (some (N, xs)) 133 1555 [some (.retAddr 0), some (.ref (0 : Nat)), some (.ref (118 : Nat)), some (.ref (119 : Nat)), some (.ref (120 : Nat)), some (.int (nI (c 0))), some (.int (nI (c 2))), some (.int (nI (c 3))), a8, some (.int (nI (n 20))), some (.int (nI (n 21))), some (.int (nI (n 19))), some (.int (nI (n 18))), some (.int (nI g)), some (.int (nI (andn (n (6 + g)) (n 19)))), some (.int (nI (sN c (n g) (andn (n (6 + g)) (n 19)) (c 0)))), some (.int (nI (n g))), some (.int (nI a)), some (.int (nI b)), v19, v20, v21, v22, v23, a24, a25, a26, a27, a28, a29] [] σ Q := by
  have w0 := hK.1.1.1
  intro f'
  induction f' with
  | zero =>
    intro b v19 v20 v21 v22 v23 hb
    obtain rfl : b = c 0 := by omega
    rw [w133_1555]
    simp only [w133_1557, w133_1559, nI_le (Nat.le_refl (c 0)) (show c 0 < 2 ^ 31 by omega), ↓reduceIte, Option.toList_some, Option.toList_none, List.cons_append, List.nil_append]
    exact kk _ _ _ _ _ _
  | succ f' ih =>
    intro b v19 v20 v21 v22 v23 hb
    rw [w133_1555]
    simp only [w133_1557, w133_1559, nI_ge (show b < c 0 by omega) (show c 0 < 2 ^ 31 by omega), ↓reduceIte, Option.toList_some, Option.toList_none, List.cons_append, List.nil_append]
    refine lAB hK hg ha (by omega) (fun v19 v20 v21 v22 v23 => ?_)
    simp only [w133_1792, w133_1795, nI_add]
    exact ih (b + 1) _ _ _ _ _ (by omega)
theorem l_a (hK : KA c n k p q im h hs ht m bg bx L tx f s σ) (hg : g < c 2) (kk : ∀ v17 v18 v19 v20 v21 v22 v23, Wq (some (N, xs)) 133 1804 [some (.retAddr 0), some (.ref (0 : Nat)), some (.ref (118 : Nat)), some (.ref (119 : Nat)), some (.ref (120 : Nat)), some (.int (nI (c 0))), some (.int (nI (c 2))), some (.int (nI (c 3))), a8, some (.int (nI (n 20))), some (.int (nI (n 21))), some (.int (nI (n 19))), some (.int (nI (n 18))), some (.int (nI g)), some (.int (nI (andn (n (6 + g)) (n 19)))), some (.int (nI (sN c (n g) (andn (n (6 + g)) (n 19)) (c 0)))), some (.int (nI (n g))), v17, v18, v19, v20, v21, v22, v23, a24, a25, a26, a27, a28, a29] [] σ Q) : ∀ (f' a : Nat) (v18 v19 v20 v21 v22 v23 : Option Value), a + f' = c 0 → Wq (some (N, xs)) 133 1515 [some (.retAddr 0), some (.ref (0 : Nat)), some (.ref (118 : Nat)), some (.ref (119 : Nat)), some (.ref (120 : Nat)), some (.int (nI (c 0))), some (.int (nI (c 2))), some (.int (nI (c 3))), a8, some (.int (nI (n 20))), some (.int (nI (n 21))), some (.int (nI (n 19))), some (.int (nI (n 18))), some (.int (nI g)), some (.int (nI (andn (n (6 + g)) (n 19)))), some (.int (nI (sN c (n g) (andn (n (6 + g)) (n 19)) (c 0)))), some (.int (nI (n g))), some (.int (nI a)), v18, v19, v20, v21, v22, v23, a24, a25, a26, a27, a28, a29] [] σ Q := by
  have w0 := hK.1.1.1
  have p8 : 2 ^ c 0 ≤ 2 ^ 8 := Nat.pow_le_pow_right (by decide) w0
  have gx := (hK.1.2.1.1 g hg).1
  have hS := sN_lt hK.1.1 (andn (n (6 + g)) (n 19)) gx (c 0)
  intro f'
  induction f' with
  | zero =>
    intro a v18 v19 v20 v21 v22 v23 ha
    obtain rfl : a = c 0 := by omega
    rw [w133_1515]
    simp only [w133_1517, w133_1519, nI_le (Nat.le_refl (c 0)) (show c 0 < 2 ^ 31 by omega), ↓reduceIte, Option.toList_some, Option.toList_none, List.cons_append, List.nil_append]
    exact kk _ _ _ _ _ _ _
  | succ f' ih =>
    intro a v18 v19 v20 v21 v22 v23 ha
    have haa : a < c 0 := by omega
    have c1 := fun Q => Cq_of (Q := Q) (q_way hK hg gx haa)
    have rb := nI_bit (a := sN c (n g) (andn (n (6 + g)) (n 19)) (c 0)) (x := a) (by omega) (by omega)
    have fin : Wq (some (N, xs)) 133 1555 [some (.retAddr 0), some (.ref (0 : Nat)), some (.ref (118 : Nat)), some (.ref (119 : Nat)), some (.ref (120 : Nat)), some (.int (nI (c 0))), some (.int (nI (c 2))), some (.int (nI (c 3))), a8, some (.int (nI (n 20))), some (.int (nI (n 21))), some (.int (nI (n 19))), some (.int (nI (n 18))), some (.int (nI g)), some (.int (nI (andn (n (6 + g)) (n 19)))), some (.int (nI (sN c (n g) (andn (n (6 + g)) (n 19)) (c 0)))), some (.int (nI (n g))), some (.int (nI a)), some (.int (nI 0)), v19, v20, v21, v22, v23, a24, a25, a26, a27, a28, a29] [] σ Q := by
      refine l_b hK hg haa (fun v18 v19 v20 v21 v22 v23 => ?_) (c 0) 0 _ _ _ _ _ (by omega)
      simp only [w133_1798, w133_1801, nI_add]
      exact ih (a + 1) _ _ _ _ _ _ (by omega)
    have hre := pw_reach (c := c) (o := andn (n (6 + g)) (n 19)) (a := n g) (b := a) hK.1.1 gx
    rw [w133_1515]
    cases hs : sbN c (n g) a (andn (n (6 + g)) (n 19)) with
    | none =>
      rw [hs] at c1 hre
      have hb : ¬ (sN c (n g) (andn (n (6 + g)) (n 19)) (c 0)).testBit a = true := fun z => by
        obtain ⟨d, hd⟩ := hre.mp z
        cases hd
      simp only [w133_1517, w133_1519, w133_1522, w133_1524, w133_1526, w133_1527, w133_1528, w133_1529, w133_1530, w133_1532, w133_1534, w133_1536, w133_1539, w133_1542, w133_1543, w133_1546, w133_1547, w133_1552, w133_1553, nI_ge haa (show c 0 < 2 ^ 31 by omega), rb, hb, ks_0, c1, oI, (by decide : (-1 : Int32) < nI 0), ↓reduceIte, Option.toList_some, Option.toList_none, List.cons_append, List.nil_append, Bool.false_eq_true]
      exact fin
    | some d =>
      rw [hs] at c1 hre
      have hd := sbN_lt hs
      have hb := hre.mpr ⟨d, rfl⟩
      simp only [w133_1517, w133_1519, w133_1522, w133_1524, w133_1526, w133_1527, w133_1528, w133_1529, w133_1530, w133_1532, w133_1534, w133_1536, w133_1539, w133_1542, w133_1543, w133_1546, w133_1547, w133_1552, w133_1553, nI_ge haa (show c 0 < 2 ^ 31 by omega), rb, hb, ks_0, c1, oI, nI_nlt (Nat.zero_le d) (show d < 2 ^ 31 by omega), ↓reduceIte, Option.toList_some, Option.toList_none, List.cons_append, List.nil_append]
      exact fin
theorem p1_b {s' a : Nat} : ∀ b, p1N c n g s' a b ≤ b := by
  intro b
  induction b with
  | zero => exact Nat.le_refl _
  | succ b ih => rw [p1S]; split <;> omega
theorem p2_b {s' : Nat} : ∀ a, p2N c n g s' a ≤ a * c 0 := by
  intro a
  induction a with
  | zero => exact Nat.zero_le _
  | succ a ih =>
    have := p1_b (c := c) (n := n) (g := g) (s' := s') (a := a) (c 0)
    rw [p2S, Nat.succ_mul]
    omega
/-- ring and posing -/
theorem l_r (hN : N < 2 ^ 31) {v18 v19 v20 v21 v22 v23 : Option Value} (hK : KA c n k p q im h hs ht m bg bx L tx f s σ) (hg : g < c 2) (kk : ∀ v17, Wq (some (N, xs)) 133 1908 [some (.retAddr 0), some (.ref (0 : Nat)), some (.ref (118 : Nat)), some (.ref (119 : Nat)), some (.ref (120 : Nat)), some (.int (nI (c 0))), some (.int (nI (c 2))), some (.int (nI (c 3))), a8, some (.int (nI (n 20))), some (.int (nI (n 21))), some (.int (nI (n 19))), some (.int (nI (n 18))), some (.int (nI g)), some (.int (nI (andn (n (6 + g)) (n 19)))), some (.int (nI (sN c (n g) (andn (n (6 + g)) (n 19)) (c 0)))), some (.int (nI (n g))), v17, v18, v19, v20, v21, v22, v23, a24, a25, a26, a27, a28, a29] [] σ Q) : Wq (some (N, xs)) 133 1804 [some (.retAddr 0), some (.ref (0 : Nat)), some (.ref (118 : Nat)), some (.ref (119 : Nat)), some (.ref (120 : Nat)), some (.int (nI (c 0))), some (.int (nI (c 2))), some (.int (nI (c 3))), a8, some (.int (nI (n 20))), some (.int (nI (n 21))), some (.int (nI (n 19))), some (.int (nI (n 18))), some (.int (nI g)), some (.int (nI (andn (n (6 + g)) (n 19)))), some (.int (nI (sN c (n g) (andn (n (6 + g)) (n 19)) (c 0)))), some (.int (nI (n g))), a17, v18, v19, v20, v21, v22, v23, a24, a25, a26, a27, a28, a29] [] σ Q := by
  have w0 := hK.1.1.1
  have p8 : 2 ^ c 0 ≤ 2 ^ 8 := Nat.pow_le_pow_right (by decide) w0
  have p0 : 0 < 2 ^ c 0 := Nat.two_pow_pos _
  have hwn := hK.1.2.1
  have gx := (hwn.1 g hg).1
  have gk := (hwn.1 g hg).2.1
  have ho8 : andn (n (6 + g)) (n 19) < 2 ^ c 0 := andn_lt gk
  have c1 := fun Q => Cq_of (Q := Q) (q_ring hK hg)
  have u2 := fun Q => Cq_of (Q := Q) (q_guide (j := 2) hK hg (by omega))
  simp only [gdN] at u2
  have s1 : partV (cellV N xs 42) (1 <<< c 0) < 2 ^ c 0 := by
    rw [Nat.one_shiftLeft]
    exact partV_lt _ p0
  have P1 := fun Q => Cq_of (Q := Q) (q_pose (s' := n (6 + g)) hK hg gk)
  have P2 := fun Q => Cq_of (Q := Q) (q_pose (s' := 0) hK hg p0)
  have P3 := fun Q => Cq_of (Q := Q) (q_pose (s' := partV (cellV N xs 42) (1 <<< c 0)) hK hg s1)
  have P4 := fun Q => Cq_of (Q := Q) (q_pose (s' := 2 ^ c 0 - 1) hK hg (by omega))
  rw [pw_pose_sub hK.1.1 (fun _ h => h)] at P1
  rw [pw_pose_sub hK.1.1 (fun i hi => by
    rw [Nat.testBit_two_pow_sub_one]
    have : i < c 0 := by
      apply Classical.byContradiction
      intro h
      rw [tb_lt gk (by omega)] at hi
      cases hi
    exact decide_eq_true this)] at P4
  have hle := pw_pose_0 (n := n) (g := g) (s := partV (cellV N xs 42) (1 <<< c 0)) hK.1.1
  have hb2 := p2_b (c := c) (n := n) (g := g) (s' := 0) (c 0)
  have hb3 : c 0 * c 0 ≤ 8 * 8 := Nat.mul_le_mul w0 w0
  have hnl : ¬ nI (p2N c n g 0 (c 0)) < nI (p2N c n g (partV (cellV N xs 42) (1 <<< c 0)) (c 0)) := nI_nlt hle (by omega)
  have e1 : nI (1 <<< c 0) - nI 1 = nI (2 ^ c 0 - 1) := by rw [Nat.one_shiftLeft, pk_sub (by omega)]
  have ob := nI_bit (a := andn (n (6 + g)) (n 19)) (x := n g) (by omega) (by omega)
  have d0 : 0 < 1 <<< c 0 := by rw [Nat.one_shiftLeft]; exact p0
  have d1 : 1 <<< c 0 < 2 ^ 31 := by rw [Nat.one_shiftLeft]; omega
  have fin : ∀ v17, Wq (some (N, xs)) 133 1846 [some (.retAddr 0), some (.ref (0 : Nat)), some (.ref (118 : Nat)), some (.ref (119 : Nat)), some (.ref (120 : Nat)), some (.int (nI (c 0))), some (.int (nI (c 2))), some (.int (nI (c 3))), a8, some (.int (nI (n 20))), some (.int (nI (n 21))), some (.int (nI (n 19))), some (.int (nI (n 18))), some (.int (nI g)), some (.int (nI (andn (n (6 + g)) (n 19)))), some (.int (nI (sN c (n g) (andn (n (6 + g)) (n 19)) (c 0)))), some (.int (nI (n g))), v17, v18, v19, v20, v21, v22, v23, a24, a25, a26, a27, a28, a29] [] σ Q := by
    intro v17
    simp only [w133_1846, w133_1847, w133_1849, w133_1850, w133_1852, w133_1853, w133_1856, w133_1859, w133_1862, w133_1863, w133_1865, w133_1866, w133_1869, w133_1870, w133_1872, w133_1873, w133_1875, w133_1878, w133_1879, w133_1881, w133_1882, w133_1885, w133_1888, w133_1891, w133_1892, w133_1894, w133_1895, w133_1897, w133_1898, w133_1899, w133_1900, w133_1903, ks_0, u2, P1, P2, q_cellC (show 42 < 2 ^ 31 by omega) hN, nI_shl 1 (show c 0 < 32 by omega), q_partC d0 d1, P3, hnl, e1, P4, ↓reduceIte, Option.toList_some, Option.toList_none, List.cons_append, List.nil_append]
    exact kk v17
  rw [w133_1804]
  cases hs : rgN c (n g) (andn (n (6 + g)) (n 19)) with
  | none =>
    rw [hs] at c1
    have m1 : ¬ (-1 : Int32) = nI 0 := by decide
    have m2 : ¬ (-1 : Int32) < -1 := by decide
    have m3 : ¬ nI (c 0) < (-1 : Int32) := fun z => by
      rw [Int32.lt_iff_toInt_lt, nI_toInt (by omega), show (-1 : Int32).toInt = -1 from rfl] at z
      omega
    have m4 : (-1 : Int32) ≤ nI 0 := by decide
    simp only [w133_1805, w133_1807, w133_1810, w133_1812, w133_1814, w133_1817, w133_1819, w133_1820, w133_1823, w133_1825, w133_1827, w133_1830, w133_1832, ks_0, c1, oI, m1, m2, m3, m4, ↓reduceIte, Option.toList_some, Option.toList_none, List.cons_append, List.nil_append]
    exact fin _
  | some d =>
    rw [hs] at c1
    obtain ⟨r1, r2, r3⟩ := pw_ring hK.1.1 gx hs
    have m1 : ¬ nI d = nI 0 := fun z => by have := nI_inj (by omega) (by omega) z; omega
    have m2 : ¬ nI d < (-1 : Int32) := fun z => by
      rw [Int32.lt_iff_toInt_lt, nI_toInt (by omega), show (-1 : Int32).toInt = -1 from rfl] at z
      omega
    have m3 : ¬ nI (c 0) < nI d := nI_nlt r2 (by omega)
    have m4 : ¬ nI d ≤ nI 0 := nI_ge (by omega) (by omega)
    simp only [w133_1805, w133_1807, w133_1810, w133_1812, w133_1814, w133_1817, w133_1819, w133_1820, w133_1823, w133_1825, w133_1827, w133_1830, w133_1832, w133_1835, w133_1837, w133_1839, w133_1840, w133_1841, w133_1842, w133_1843, ks_0, c1, oI, m1, m2, m3, m4, ob, r3, ↓reduceIte, Option.toList_some, Option.toList_none, List.cons_append, List.nil_append]
    exact fin _
/-- the clients -/
theorem l_e {v17 v20 v21 v22 v23 : Option Value} (hK : KA c n k p q im h hs ht m bg bx L tx f s σ) (hT : TF c σ) (hg : g < c 2) (kk : ∀ v18 v19, Wq (some (N, xs)) 133 2088 [some (.retAddr 0), some (.ref (0 : Nat)), some (.ref (118 : Nat)), some (.ref (119 : Nat)), some (.ref (120 : Nat)), some (.int (nI (c 0))), some (.int (nI (c 2))), some (.int (nI (c 3))), a8, some (.int (nI (n 20))), some (.int (nI (n 21))), some (.int (nI (n 19))), some (.int (nI (n 18))), some (.int (nI g)), some (.int (nI (andn (n (6 + g)) (n 19)))), some (.int (nI (sN c (n g) (andn (n (6 + g)) (n 19)) (c 0)))), some (.int (nI (n g))), v17, v18, v19, v20, v21, v22, v23, a24, a25, a26, a27, a28, a29] [] σ Q) : ∀ (f' e : Nat) (v19 : Option Value), e + f' = c 3 → Wq (some (N, xs)) 133 1911 [some (.retAddr 0), some (.ref (0 : Nat)), some (.ref (118 : Nat)), some (.ref (119 : Nat)), some (.ref (120 : Nat)), some (.int (nI (c 0))), some (.int (nI (c 2))), some (.int (nI (c 3))), a8, some (.int (nI (n 20))), some (.int (nI (n 21))), some (.int (nI (n 19))), some (.int (nI (n 18))), some (.int (nI g)), some (.int (nI (andn (n (6 + g)) (n 19)))), some (.int (nI (sN c (n g) (andn (n (6 + g)) (n 19)) (c 0)))), some (.int (nI (n g))), v17, some (.int (nI e)), v19, v20, v21, v22, v23, a24, a25, a26, a27, a28, a29] [] σ Q := by
  have w0 := hK.1.1.1
  have w2 := hK.1.1.2.1
  have w3 := hK.1.1.2.2.1
  have p6 : 2 ^ c 3 ≤ 2 ^ 6 := Nat.pow_le_pow_right (by decide) w3
  have hn18 := hK.1.2.1.2.1
  intro f'
  induction f' with
  | zero =>
    intro e v19 he
    obtain rfl : e = c 3 := by omega
    rw [w133_1911]
    simp only [w133_1913, w133_1915, nI_le (Nat.le_refl (c 3)) (show c 3 < 2 ^ 31 by omega), ↓reduceIte, Option.toList_some, Option.toList_none, List.cons_append, List.nil_append]
    exact kk _ _
  | succ f' ih =>
    intro e v19 he
    have hee : e < c 3 := by omega
    obtain ⟨x1, x2⟩ := hK.1.1.2.2.2.2.2.2.2.1 e hee
    have L0 := fun Q => Cq_of (Q := Q) (q_leads (j := 0) hK hg hee (by omega))
    have L1 := fun Q => Cq_of (Q := Q) (q_leads (j := 1) hK hg hee (by omega))
    have L2 := fun Q => Cq_of (Q := Q) (q_leads (j := 2) hK hg hee (by omega))
    have cl0 := fun Q => Cq_of (Q := Q) (q_client (j := 0) hK hee (by omega))
    have cl1 := fun Q => Cq_of (Q := Q) (q_client (j := 1) hK hee (by omega))
    simp only [if_true, (by decide : ¬ (1 : Nat) = 0), if_false] at cl0 cl1
    have wy := fun Q => Cq_of (Q := Q) (q_way hK hg x1 x2)
    have hbit := nI_bit (a := n 18) (x := e) (by omega) (by omega)
    have n01 : ¬ nI 0 = nI 1 := by decide
    have m4 : (-1 : Int32) < nI 0 := by decide
    have m5 : (-1 : Int32) ≤ nI 0 := by decide
    rw [w133_1911]
    by_cases hb : (n 18).testBit e = true
    · have el : lwN c n g e = none := if_pos hb
      have e0 : ∀ j, ldN c n g e j = none := fun j => by unfold ldN; rw [el]
      simp only [e0, oI] at L0 L1 L2
      simp only [w133_1913, w133_1915, w133_1918, w133_1919, w133_1921, w133_1923, w133_1924, w133_1927, w133_1929, w133_1931, w133_1933, w133_1935, w133_1936, w133_1937, w133_1938, w133_1939, w133_1942, w133_1943, w133_1946, w133_1947, w133_1949, w133_1950, w133_1952, w133_1953, w133_1956, w133_1957, w133_1959, w133_1960, w133_1963, w133_1966, w133_1969, w133_1970, w133_1972, w133_1974, w133_1975, w133_1978, w133_1981, w133_1982, w133_1985, w133_1986, w133_1988, w133_1991, w133_1992, w133_1995, w133_1996, w133_1999, w133_2000, w133_2002, w133_2004, w133_2005, w133_2008, w133_2011, w133_2012, w133_2015, w133_2016, w133_2018, w133_2021, w133_2022, w133_2025, w133_2026, w133_2029, w133_2031, w133_2034, w133_2035, w133_2037, w133_2039, w133_2040, w133_2043, w133_2044, w133_2045, w133_2048, w133_2049, w133_2052, w133_2054, w133_2055, w133_2057, w133_2059, w133_2060, w133_2060s, w133_2061, w133_2062, w133_2065, w133_2067, w133_2068, w133_2070, w133_2072, w133_2073, w133_2073s, w133_2074, w133_2075, w133_2076, w133_2077, w133_2080, w133_2081, w133_2082, w133_2085, nI_ge hee (show c 3 < 2 ^ 31 by omega), ks_0, L0, L1, L2, hbit, hb, m4, m5, nI_add, ↓reduceIte, Option.toList_some, Option.toList_none, List.cons_append, List.nil_append]
      exact ih (e + 1) _ (by omega)
    · have el : lwN c n g e = sbN c (c (55 + e)) (c (61 + e)) (andn (n (6 + g)) (n 19)) := if_neg hb
      cases hs : sbN c (c (55 + e)) (c (61 + e)) (andn (n (6 + g)) (n 19)) with
      | none =>
        rw [hs] at el wy
        have e0 : ∀ j, ldN c n g e j = none := fun j => by unfold ldN; rw [el]
        simp only [e0, oI] at L0 L1 L2 wy
        simp only [w133_1913, w133_1915, w133_1918, w133_1919, w133_1921, w133_1923, w133_1924, w133_1927, w133_1929, w133_1931, w133_1933, w133_1935, w133_1936, w133_1937, w133_1938, w133_1939, w133_1942, w133_1943, w133_1946, w133_1947, w133_1949, w133_1950, w133_1952, w133_1953, w133_1956, w133_1957, w133_1959, w133_1960, w133_1963, w133_1966, w133_1969, w133_1970, w133_1972, w133_1974, w133_1975, w133_1978, w133_1981, w133_1982, w133_1985, w133_1986, w133_1988, w133_1991, w133_1992, w133_1995, w133_1996, w133_1999, w133_2000, w133_2002, w133_2004, w133_2005, w133_2008, w133_2011, w133_2012, w133_2015, w133_2016, w133_2018, w133_2021, w133_2022, w133_2025, w133_2026, w133_2029, w133_2031, w133_2034, w133_2035, w133_2037, w133_2039, w133_2040, w133_2043, w133_2044, w133_2045, w133_2048, w133_2049, w133_2052, w133_2054, w133_2055, w133_2057, w133_2059, w133_2060, w133_2060s, w133_2061, w133_2062, w133_2065, w133_2067, w133_2068, w133_2070, w133_2072, w133_2073, w133_2073s, w133_2074, w133_2075, w133_2076, w133_2077, w133_2080, w133_2081, w133_2082, w133_2085, nI_ge hee (show c 3 < 2 ^ 31 by omega), ks_0, L0, L1, L2, hbit, hb, n01, cl0, cl1, wy, m4, m5, nI_add, ↓reduceIte, Option.toList_some, Option.toList_none, List.cons_append, List.nil_append, Bool.false_eq_true]
        exact ih (e + 1) _ (by omega)
      | some d =>
        rw [hs] at el wy
        have hd := sbN_lt hs
        have hcs : csN c (n 20) g d ≤ 792 := csN_lt hK.1.1 hg (by omega)
        have e0 : ldN c n g e 0 = some d := by unfold ldN; rw [el]; rfl
        have e1 : ldN c n g e 1 = some (csN c (n 20) g d) := by unfold ldN; rw [el]; rfl
        have e2 : ldN c n g e 2 = ftN c (c (55 + e)) (c (61 + e)) (andn (n (6 + g)) (n 19)) := by unfold ldN; rw [el]; rfl
        have nd : ¬ nI d < nI 0 := nI_nlt (Nat.zero_le _) (by omega)
        have nc : ¬ nI (csN c (n 20) g d) < nI 0 := nI_nlt (Nat.zero_le _) (by omega)
        have pd : nI 0 ≤ nI d := nI_le (Nat.zero_le _) (by omega)
        have pc : nI 0 ≤ nI (csN c (n 20) g d) := nI_le (Nat.zero_le _) (by omega)
        have pm : ¬ nI 0 ≤ (-1 : Int32) := by decide
        have gz := (hT.2.2.2.2.2.2 g hg).1
        have t5 := fun Q => Cq_of (Q := Q) (q_told (j := 5) hK (by omega))
        simp only [tdN] at t5
        have hmo : moN c (n 20) ≤ 9 := by
          unfold moN
          split
          · omega
          · exact hK.1.1.2.2.2.2.2.2.2.2 _ (Nat.mod_lt _ (by omega))
        have hask := (hK.1.1.2.2.2.2.2.2.1 g hg).2.1
        have hmul : d * c (43 + g) ≤ 8 * 99 := Nat.mul_le_mul (by omega) hask
        have hcost : ∀ (Q' : Option Value → dm_G → Prop) (a23' : Option Value), Wq (some (N, xs)) 133 2043 [some (.retAddr 0), some (.ref (0 : Nat)), some (.ref (118 : Nat)), some (.ref (119 : Nat)), some (.ref (120 : Nat)), some (.int (nI (c 0))), some (.int (nI (c 2))), some (.int (nI (c 3))), a8, some (.int (nI (n 20))), some (.int (nI (n 21))), some (.int (nI (n 19))), some (.int (nI (n 18))), some (.int (nI g)), some (.int (nI (andn (n (6 + g)) (n 19)))), some (.int (nI (sN c (n g) (andn (n (6 + g)) (n 19)) (c 0)))), some (.int (nI (n g))), v17, some (.int (nI e)), some (.int (nI d)), v20, v21, v22, v23, a24, a25, a26, a27, a28, a29] [.int (nI (csN c (n 20) g d))] σ Q' = Wq (some (N, xs)) 133 2082 [some (.retAddr 0), some (.ref (0 : Nat)), some (.ref (118 : Nat)), some (.ref (119 : Nat)), some (.ref (120 : Nat)), some (.int (nI (c 0))), some (.int (nI (c 2))), some (.int (nI (c 3))), a8, some (.int (nI (n 20))), some (.int (nI (n 21))), some (.int (nI (n 19))), some (.int (nI (n 18))), some (.int (nI g)), some (.int (nI (andn (n (6 + g)) (n 19)))), some (.int (nI (sN c (n g) (andn (n (6 + g)) (n 19)) (c 0)))), some (.int (nI (n g))), v17, some (.int (nI e)), some (.int (nI d)), v20, v21, v22, v23, a24, a25, a26, a27, a28, a29] [] σ Q' := by
          intro Q' _
          by_cases hm : 5 ≤ moN c (n 20)
          · have h5 : nI 5 ≤ nI (moN c (n 20)) := nI_le hm (by omega)
            have ec : csN c (n 20) g d = d * c (43 + g) / 2 := by
              unfold csN
              rw [if_pos hm, Nat.mul_comm]
            simp only [w133_2043, w133_2044, w133_2045, w133_2048, w133_2049, w133_2052, w133_2054, w133_2055, w133_2057, w133_2059, w133_2060, w133_2060s, w133_2061, w133_2062, w133_2065, w133_2067, w133_2068, w133_2070, w133_2072, w133_2073, w133_2073s, w133_2074, w133_2075, w133_2076, w133_2077, ks_0, t5, h5, kt_118, nI_add, in_nI (show 37 + g < kl 118 by rw [kl_118]; omega) (by rw [kl_118]; omega), nI_clamp (show 37 + g < 2 ^ 31 by omega), gz, pk_mul, (by decide : ¬ nI 2 = 0), not_false_eq_true, pk_div (show d * c (43 + g) < 2 ^ 31 by omega) (show 0 < 2 by omega) (show 2 < 2 ^ 31 by omega), ec, ↓reduceIte, Option.toList_some, Option.toList_none, List.cons_append, List.nil_append]
          · have h5 : ¬ nI 5 ≤ nI (moN c (n 20)) := nI_ge (by omega) (by omega)
            have ec : csN c (n 20) g d = d * c (43 + g) := by
              unfold csN
              rw [if_neg hm, Nat.mul_comm]
            simp only [w133_2043, w133_2044, w133_2045, w133_2048, w133_2049, w133_2052, w133_2054, w133_2055, w133_2057, w133_2059, w133_2060, w133_2060s, w133_2061, w133_2062, w133_2065, w133_2067, w133_2068, w133_2070, w133_2072, w133_2073, w133_2073s, w133_2074, w133_2075, w133_2076, w133_2077, ks_0, t5, h5, kt_118, nI_add, in_nI (show 37 + g < kl 118 by rw [kl_118]; omega) (by rw [kl_118]; omega), nI_clamp (show 37 + g < 2 ^ 31 by omega), gz, pk_mul, ec, ↓reduceIte, Option.toList_some, Option.toList_none, List.cons_append, List.nil_append]
        have hft := pw_ft (c := c) (o := andn (n (6 + g)) (n 19)) (b := c (61 + e)) hK.1.1 x1
        rw [e0] at L0
        rw [e1] at L1
        rw [e2] at L2
        simp only [oI] at L0 L1 wy
        by_cases hd0 : d = 0
        · subst hd0
          rw [hft.mpr (Or.inr hs)] at L2
          simp only [oI] at L2
          simp only [w133_1913, w133_1915, w133_1918, w133_1919, w133_1921, w133_1923, w133_1924, w133_1927, w133_1929, w133_1931, w133_1933, w133_1935, w133_1936, w133_1937, w133_1938, w133_1939, w133_1942, w133_1943, w133_1946, w133_1947, w133_1949, w133_1950, w133_1952, w133_1953, w133_1956, w133_1957, w133_1959, w133_1960, w133_1963, w133_1966, w133_1969, w133_1970, w133_1972, w133_1974, w133_1975, w133_1978, w133_1981, w133_1982, w133_1985, w133_1986, w133_1988, w133_1991, w133_1992, w133_1995, w133_1996, w133_1999, w133_2000, w133_2002, w133_2004, w133_2005, w133_2008, w133_2011, w133_2012, w133_2015, w133_2016, w133_2018, w133_2021, w133_2022, w133_2025, w133_2026, w133_2029, w133_2031, w133_2034, w133_2035, w133_2037, w133_2039, w133_2040, w133_2082, w133_2085, nI_ge hee (show c 3 < 2 ^ 31 by omega), ks_0, L0, L1, L2, hbit, hb, n01, cl0, cl1, wy, m4, nd, nc, pc, pm, (by decide : ¬ nI 0 < nI 0), nI_le (Nat.le_refl 0) (show 0 < 2 ^ 31 by omega), nI_add, ↓reduceIte, Option.toList_some, Option.toList_none, List.cons_append, List.nil_append, Bool.false_eq_true]
          rw [hcost _ none]
          simp only [w133_2082, w133_2085, nI_add]
          exact ih (e + 1) _ (by omega)
        · have hne : ftN c (c (55 + e)) (c (61 + e)) (andn (n (6 + g)) (n 19)) ≠ none := fun z => by
            rcases hft.mp z with h1 | h1
            · rw [hs] at h1; cases h1
            · rw [hs] at h1; cases h1; exact hd0 rfl
          obtain ⟨t, ht⟩ := Option.ne_none_iff_exists'.mp hne
          have ht3 : t < 3 := by
            unfold ftN at ht
            rw [hs] at ht
            cases d with
            | zero => exact absurd rfl hd0
            | succ d =>
              have := (fnd_some _ _ _ ht).2.1
              omega
          rw [ht] at L2
          simp only [oI] at L2
          have nt : ¬ nI t < nI 0 := nI_nlt (Nat.zero_le _) (by omega)
          have pt : nI 0 ≤ nI t := nI_le (Nat.zero_le _) (by omega)
          have pl : nI 0 < nI d := (nI_ltI (by omega) (by omega)).mpr (by omega)
          have np : ¬ nI d ≤ nI 0 := nI_ge (by omega) (by omega)
          simp only [w133_1913, w133_1915, w133_1918, w133_1919, w133_1921, w133_1923, w133_1924, w133_1927, w133_1929, w133_1931, w133_1933, w133_1935, w133_1936, w133_1937, w133_1938, w133_1939, w133_1942, w133_1943, w133_1946, w133_1947, w133_1949, w133_1950, w133_1952, w133_1953, w133_1956, w133_1957, w133_1959, w133_1960, w133_1963, w133_1966, w133_1969, w133_1970, w133_1972, w133_1974, w133_1975, w133_1978, w133_1981, w133_1982, w133_1985, w133_1986, w133_1988, w133_1991, w133_1992, w133_1995, w133_1996, w133_1999, w133_2000, w133_2002, w133_2004, w133_2005, w133_2008, w133_2011, w133_2012, w133_2015, w133_2016, w133_2018, w133_2021, w133_2022, w133_2025, w133_2026, w133_2029, w133_2031, w133_2034, w133_2035, w133_2037, w133_2039, w133_2040, w133_2082, w133_2085, nI_ge hee (show c 3 < 2 ^ 31 by omega), ks_0, L0, L1, L2, hbit, hb, n01, cl0, cl1, wy, m4, nd, nc, pd, pc, pt, nt, np, pl, nI_add, ↓reduceIte, Option.toList_some, Option.toList_none, List.cons_append, List.nil_append, Bool.false_eq_true]
          rw [hcost _ none]
          simp only [w133_2082, w133_2085, nI_add]
          exact ih (e + 1) _ (by omega)
end LW8
