/-! the law: ways, and what all go by -/
section LW7
variable {N : Nat} {xs : Nat → Int32} {σ : dm_G} {Q : Option Value → dm_G → Prop} {g a b o : Nat} {a8 a13 a14 a15 a16 a17 a18 a19 a20 a21 a22 a23 a24 a25 a26 a27 a28 a29 : Option Value} {c n : Nat → Nat} {k : Nat} {p : Nat → Nat → Nat} {q : Nat} {im : Nat → Nat → Nat} {h : Nat} {hs ht : Nat → Nat} {m : Nat} {bg bx : Nat → Nat} {L : Nat} {tx : Nat → Nat} {f : Int32} {s : Nat}
theorem cnt_z {s : Nat} (h : ∀ N, cnt s N ≤ 0) : s = 0 := by
  apply Nat.eq_of_testBit_eq
  intro i
  rw [Nat.zero_testBit]
  cases hb : s.testBit i with
  | false => rfl
  | true =>
    have h1 := h (i + 1)
    rw [cnt, if_pos hb] at h1
    omega
theorem lt_bits {s N : Nat} (h : ∀ x, s.testBit x = true → x < N) : s < 2 ^ N := by
  apply Nat.lt_pow_two_of_testBit
  intro i hi
  cases hb : s.testBit i with
  | false => rfl
  | true => have := h i hb; omega
theorem andn_sub {s o : Nat} (h : ∀ x, s.testBit x = true → o.testBit x = true) : andn s o = 0 := by
  apply Nat.eq_of_testBit_eq
  intro i
  rw [andn_tb, Nat.zero_testBit]
  cases hb : s.testBit i with
  | false => rfl
  | true => rw [h i hb]; rfl
/-- by any turn first it is no shorter -/
theorem lK {W : Option Nat} {v20 : Option Value} (hK : KA c n k p q im h hs ht m bg bx L tx f s σ) (hg : g < c 2) (ha : a < c 0) (hb : b < c 0) (hW : sbN c a b (andn (n (6 + g)) (n 19)) = W) (kk : ∀ v21 v22 v23, Wq (some (N, xs)) 133 1792 [some (.retAddr 0), some (.ref (0 : Nat)), some (.ref (118 : Nat)), some (.ref (119 : Nat)), some (.ref (120 : Nat)), some (.int (nI (c 0))), some (.int (nI (c 2))), some (.int (nI (c 3))), a8, some (.int (nI (n 20))), some (.int (nI (n 21))), some (.int (nI (n 19))), some (.int (nI (n 18))), some (.int (nI g)), some (.int (nI (andn (n (6 + g)) (n 19)))), a15, a16, some (.int (nI a)), some (.int (nI b)), some (.int (oI W)), v20, v21, v22, v23, a24, a25, a26, a27, a28, a29] [] σ Q) : ∀ (f' j : Nat) (v22 v23 : Option Value), j + f' = 3 → Wq (some (N, xs)) 133 1722 [some (.retAddr 0), some (.ref (0 : Nat)), some (.ref (118 : Nat)), some (.ref (119 : Nat)), some (.ref (120 : Nat)), some (.int (nI (c 0))), some (.int (nI (c 2))), some (.int (nI (c 3))), a8, some (.int (nI (n 20))), some (.int (nI (n 21))), some (.int (nI (n 19))), some (.int (nI (n 18))), some (.int (nI g)), some (.int (nI (andn (n (6 + g)) (n 19)))), a15, a16, some (.int (nI a)), some (.int (nI b)), some (.int (oI W)), v20, some (.int (nI (j + 1))), v22, v23, a24, a25, a26, a27, a28, a29] [] σ Q := by
  have w0 := hK.1.1.1
  have p8 : 2 ^ c 0 ≤ 2 ^ 8 := Nat.pow_le_pow_right (by decide) w0
  intro f'
  induction f' with
  | zero =>
    intro j v22 v23 hj
    obtain rfl : j = 3 := by omega
    rw [w133_1722]
    simp only [w133_1724, w133_1725, nI_le (Nat.le_refl 4) (show 4 < 2 ^ 31 by omega), Nat.reduceAdd, ↓reduceIte, Option.toList_some, Option.toList_none, List.cons_append, List.nil_append]
    exact kk _ _ _
  | succ f' ih =>
    intro j v22 v23 hj
    have ht : j < 3 := by omega
    have c1 := fun Q => Cq_of (Q := Q) (q_crossing hK ha ht)
    have hto : Tn c a j < c 0 := Tn_lt hK.1.1 ha ht
    have c2 := fun Q => Cq_of (Q := Q) (q_way hK hg hto hb)
    have ho := andn_lt31 hK.1.1 hK.1.2.1 hg
    have e1 : c (13 + (3 * a + j)) = Tn c a j := rfl
    rw [e1] at c1
    have ob := nI_bit (a := andn (n (6 + g)) (n 19)) (x := Tn c a j) ho (by omega)
    rw [w133_1722]
    by_cases hbt : (andn (n (6 + g)) (n 19)).testBit (Tn c a j) = true
    · cases hs : sbN c (Tn c a j) b (andn (n (6 + g)) (n 19)) with
      | none =>
        rw [hs] at c2
        simp only [w133_1724, w133_1725, w133_1728, w133_1729, w133_1731, w133_1733, w133_1736, w133_1738, w133_1740, w133_1742, w133_1743, w133_1744, w133_1745, w133_1746, w133_1749, w133_1750, w133_1752, w133_1754, w133_1756, w133_1759, w133_1762, w133_1763, w133_1765, w133_1767, w133_1770, w133_1772, w133_1775, w133_1777, w133_1779, w133_1780, w133_1781, w133_1784, w133_1785, w133_1786, w133_1789, nI_ge (show j + 1 < 4 by omega) (show 4 < 2 ^ 31 by omega), ks_0, c1, ob, hbt, c2, oI, (by decide : (-1 : Int32) < nI 0), nI_add, ↓reduceIte, Option.toList_some, Option.toList_none, List.cons_append, List.nil_append]
        exact ih (j + 1) _ _ (by omega)
      | some d' =>
        rw [hs] at c2
        obtain ⟨d, hd, hle⟩ := pw_turn hK.1.1 ha ht hbt hs
        have hd8 := sbN_lt hd
        have hd8' := sbN_lt hs
        rw [hd] at hW
        subst hW
        simp only [w133_1724, w133_1725, w133_1728, w133_1729, w133_1731, w133_1733, w133_1736, w133_1738, w133_1740, w133_1742, w133_1743, w133_1744, w133_1745, w133_1746, w133_1749, w133_1750, w133_1752, w133_1754, w133_1756, w133_1759, w133_1762, w133_1763, w133_1765, w133_1767, w133_1770, w133_1772, w133_1775, w133_1777, w133_1779, w133_1780, w133_1781, w133_1784, w133_1785, w133_1786, w133_1789, nI_ge (show j + 1 < 4 by omega) (show 4 < 2 ^ 31 by omega), ks_0, c1, ob, hbt, c2, oI, nI_nlt (Nat.zero_le d') (show d' < 2 ^ 31 by omega), nI_nlt (Nat.zero_le d) (show d < 2 ^ 31 by omega), nI_add, nI_le hle (show d' + 1 < 2 ^ 31 by omega), ↓reduceIte, Option.toList_some, Option.toList_none, List.cons_append, List.nil_append]
        exact ih (j + 1) _ _ (by omega)
    · simp only [w133_1724, w133_1725, w133_1728, w133_1729, w133_1731, w133_1733, w133_1736, w133_1738, w133_1740, w133_1742, w133_1743, w133_1744, w133_1745, w133_1746, w133_1749, w133_1750, w133_1752, w133_1754, w133_1756, w133_1759, w133_1762, w133_1763, w133_1765, w133_1767, w133_1770, w133_1772, w133_1775, w133_1777, w133_1779, w133_1780, w133_1781, w133_1784, w133_1785, w133_1786, w133_1789, nI_ge (show j + 1 < 4 by omega) (show 4 < 2 ^ 31 by omega), ks_0, c1, ob, hbt, (by decide : ¬ nI 0 = nI 1), (by decide : (-1 : Int32) < nI 0), nI_add, ↓reduceIte, Option.toList_some, Option.toList_none, List.cons_append, List.nil_append, Bool.false_eq_true]
      exact ih (j + 1) _ _ (by omega)
/-- from one crossing to another one -/
theorem lAB {v19 v20 v21 v22 v23 : Option Value} (hK : KA c n k p q im h hs ht m bg bx L tx f s σ) (hg : g < c 2) (ha : a < c 0) (hb : b < c 0) (kk : ∀ v19 v20 v21 v22 v23, Wq (some (N, xs)) 133 1792 [some (.retAddr 0), some (.ref (0 : Nat)), some (.ref (118 : Nat)), some (.ref (119 : Nat)), some (.ref (120 : Nat)), some (.int (nI (c 0))), some (.int (nI (c 2))), some (.int (nI (c 3))), a8, some (.int (nI (n 20))), some (.int (nI (n 21))), some (.int (nI (n 19))), some (.int (nI (n 18))), some (.int (nI g)), some (.int (nI (andn (n (6 + g)) (n 19)))), a15, a16, some (.int (nI a)), some (.int (nI b)), v19, v20, v21, v22, v23, a24, a25, a26, a27, a28, a29] [] σ Q) : Wq (some (N, xs)) 133 1562 [some (.retAddr 0), some (.ref (0 : Nat)), some (.ref (118 : Nat)), some (.ref (119 : Nat)), some (.ref (120 : Nat)), some (.int (nI (c 0))), some (.int (nI (c 2))), some (.int (nI (c 3))), a8, some (.int (nI (n 20))), some (.int (nI (n 21))), some (.int (nI (n 19))), some (.int (nI (n 18))), some (.int (nI g)), some (.int (nI (andn (n (6 + g)) (n 19)))), a15, a16, some (.int (nI a)), some (.int (nI b)), v19, v20, v21, v22, v23, a24, a25, a26, a27, a28, a29] [] σ Q := by
  have w0 := hK.1.1.1
  have p8 : 2 ^ c 0 ≤ 2 ^ 8 := Nat.pow_le_pow_right (by decide) w0
  have hwn := hK.1.2.1
  have c1 := fun Q => Cq_of (Q := Q) (q_way hK hg ha hb)
  have c2 := fun Q => Cq_of (Q := Q) (q_allGoBy hK hg ha hb)
  have ho8 : andn (n (6 + g)) (n 19) < 2 ^ c 0 := andn_lt (hwn.1 g hg).2.1
  have hlK := fun (W : Option Nat) (v20 : Option Value) hW v22 v23 => lK (N := N) (xs := xs) (Q := Q) (a8 := a8) (a15 := a15) (a16 := a16) (a24 := a24) (a25 := a25) (a26 := a26) (a27 := a27) (a28 := a28) (a29 := a29) (W := W) (v20 := v20) hK hg ha hb hW (fun v21 v22 v23 => kk _ _ _ _ _) 3 0 v22 v23 (by omega)
  have hpa := pw_all (b := b) hK.1.1 ha ho8
  have hG8 : gbN c a b (andn (n (6 + g)) (n 19)) < 2 ^ c 0 := lt_bits (fun x hx => (hpa.1 x hx).1)
  have hGa : ¬ (gbN c a b (andn (n (6 + g)) (n 19))).testBit a = true := fun z => (hpa.1 a z).2.1 rfl
  have hGb : ¬ (gbN c a b (andn (n (6 + g)) (n 19))).testBit b = true := fun z => (hpa.1 b z).2.2.1 rfl
  have hGo := andn_sub (fun x hx => (hpa.1 x hx).2.2.2)
  have hGc := hpa.2
  generalize hGG : gbN c a b (andn (n (6 + g)) (n 19)) = G at c2 hG8 hGa hGb hGo hGc
  have ho31 : andn (n (6 + g)) (n 19) < 2 ^ 31 := by omega
  have cm := fun Q => Cs_of (Q := Q) (q_many (N := N) (xs := xs) (σ := σ) (s' := G) (by omega))
  have ga := nI_bit (a := G) (x := a) (by omega) (by omega)
  have gb := nI_bit (a := G) (x := b) (by omega) (by omega)
  have gn : ¬ nI G < nI 0 := nI_nlt (Nat.zero_le _) (by omega)
  have gl : ¬ nI (1 <<< c 0) ≤ nI G := nI_ge (by rw [Nat.one_shiftLeft]; exact hG8) (by rw [Nat.one_shiftLeft]; omega)
  have n01 : ¬ nI 0 = nI 1 := by decide
  have hc8 : cnt G 8 ≤ 8 := cnt_le G 8
  cases hs : sbN c a b (andn (n (6 + g)) (n 19)) with
  | none =>
    rw [hs] at c1 hGc
    have hG0 : G = 0 := cnt_z hGc
    subst hG0
    have hab : ¬ nI a = nI b := fun z => by
      have h1 := nI_inj (by omega) (by omega) z
      rw [(pw_0 hK.1.1 ha).mpr h1] at hs
      cases hs
    have fin := hlK none (some (.int (nI 0))) hs v22 v23
    simp only [oI] at fin c1
    have m1 : ¬ (-1 : Int32) < -1 := by decide
    have m2 : ¬ nI (c 0) < (-1 : Int32) := fun z => by
      rw [Int32.lt_iff_toInt_lt, nI_toInt (by omega), show (-1 : Int32).toInt = -1 from rfl] at z
      omega
    have m3 : ¬ (-1 : Int32) = nI 0 := by decide
    have m4 : (-1 : Int32) ≤ nI 0 := by decide
    have m5 : ¬ nI 2 ≤ (-1 : Int32) := by decide
    have m6 : ¬ nI 1 ≤ (-1 : Int32) := by decide
    have hc0 : cnt 0 8 = 0 := by decide
    simp only [w133_1562, w133_1563, w133_1565, w133_1567, w133_1569, w133_1572, w133_1574, w133_1575, w133_1577, w133_1579, w133_1581, w133_1584, w133_1586, w133_1588, w133_1589, w133_1592, w133_1594, w133_1596, w133_1599, w133_1601, w133_1604, w133_1605, w133_1608, w133_1609, w133_1611, w133_1613, w133_1616, w133_1617, w133_1620, w133_1621, w133_1624, w133_1626, w133_1629, w133_1631, w133_1633, w133_1634, w133_1635, w133_1636, w133_1637, w133_1640, w133_1642, w133_1645, w133_1647, w133_1649, w133_1650, w133_1651, w133_1652, w133_1653, w133_1656, w133_1658, w133_1660, w133_1661, w133_1662, w133_1663, w133_1664, w133_1667, w133_1669, w133_1670, w133_1672, w133_1673, w133_1676, w133_1678, w133_1679, w133_1682, w133_1684, w133_1687, w133_1689, w133_1691, w133_1692, w133_1693, w133_1694, w133_1697, w133_1699, w133_1702, w133_1704, w133_1705, w133_1708, w133_1709, w133_1712, w133_1714, w133_1719, w133_1720, ks_0, c1, c2, m1, m2, m3, m4, m5, m6, hab, gn, ga, gb, hGa, hGb, n01, gl, nI_shl 1 (show c 0 < 32 by omega), nI_andn, hGo, cm, hc0, (by decide : nI 0 < nI 1), ↓reduceIte, Option.toList_some, Option.toList_none, List.cons_append, List.nil_append, Bool.false_eq_true]
    exact fin
  | some d =>
    rw [hs] at c1 hGc
    have hd := sbN_lt hs
    have hGc8 : cnt G 8 ≤ d - 1 := hGc 8
    have fin := hlK (some d) (some (.int (nI G))) hs v22 v23
    simp only [oI] at fin c1
    have m1 : ¬ nI d < (-1 : Int32) := fun z => by
      rw [Int32.lt_iff_toInt_lt, nI_toInt (by omega), show (-1 : Int32).toInt = -1 from rfl] at z
      omega
    have m2 : ¬ nI (c 0) < nI d := nI_nlt (by omega) (by omega)
    cases d with
    | zero =>
      have hG0 : G = 0 := cnt_z hGc
      subst hG0
      have hab := (pw_0 hK.1.1 ha).mp hs
      subst hab
      have hc0 : cnt 0 8 = 0 := by decide
      simp only [w133_1562, w133_1563, w133_1565, w133_1567, w133_1569, w133_1572, w133_1574, w133_1575, w133_1577, w133_1579, w133_1581, w133_1584, w133_1586, w133_1588, w133_1589, w133_1592, w133_1594, w133_1596, w133_1599, w133_1601, w133_1604, w133_1605, w133_1608, w133_1609, w133_1611, w133_1613, w133_1616, w133_1617, w133_1620, w133_1621, w133_1624, w133_1626, w133_1629, w133_1631, w133_1633, w133_1634, w133_1635, w133_1636, w133_1637, w133_1640, w133_1642, w133_1645, w133_1647, w133_1649, w133_1650, w133_1651, w133_1652, w133_1653, w133_1656, w133_1658, w133_1660, w133_1661, w133_1662, w133_1663, w133_1664, w133_1667, w133_1669, w133_1670, w133_1672, w133_1673, w133_1676, w133_1678, w133_1679, w133_1682, w133_1684, w133_1687, w133_1689, w133_1691, w133_1692, w133_1693, w133_1694, w133_1697, w133_1699, w133_1702, w133_1704, w133_1705, w133_1708, w133_1709, w133_1712, w133_1714, w133_1719, w133_1720, ks_0, c1, c2, m1, m2, nI_le (Nat.le_refl 0) (show 0 < 2 ^ 31 by omega), gn, ga, hGa, n01, gl, nI_shl 1 (show c 0 < 32 by omega), (by decide : ¬ nI 2 ≤ nI 0), nI_andn, hGo, cm, hc0, (by decide : ¬ nI 1 ≤ nI 0), (by decide : nI 0 < nI 1), ↓reduceIte, Option.toList_some, Option.toList_none, List.cons_append, List.nil_append, Bool.false_eq_true]
      exact fin
    | succ d =>
      have hab : ¬ nI a = nI b := fun z => by
        have h1 := nI_inj (by omega) (by omega) z
        rw [(pw_0 hK.1.1 ha).mpr h1] at hs
        cases hs
      have hob := pw_end hK.1.1 ha hs
      have obb := nI_bit (a := andn (n (6 + g)) (n 19)) (x := b) ho31 (by omega)
      have m3 : ¬ nI (d + 1) = nI 0 := fun z => by have := nI_inj (by omega) (by omega) z; omega
      have m4 : ¬ nI (d + 1) ≤ nI 0 := nI_ge (by omega) (by omega)
      have m6 : nI 1 ≤ nI (d + 1) := nI_le (by omega) (by omega)
      have m7 : nI (cnt G 8) < nI (d + 1) := (nI_ltI (by omega) (by omega)).mpr (by omega)
      by_cases hd2 : d = 0
      · subst hd2
        have hG0 : G = 0 := cnt_z hGc
        subst hG0
        simp only [w133_1562, w133_1563, w133_1565, w133_1567, w133_1569, w133_1572, w133_1574, w133_1575, w133_1577, w133_1579, w133_1581, w133_1584, w133_1586, w133_1588, w133_1589, w133_1592, w133_1594, w133_1596, w133_1599, w133_1601, w133_1604, w133_1605, w133_1608, w133_1609, w133_1611, w133_1613, w133_1616, w133_1617, w133_1620, w133_1621, w133_1624, w133_1626, w133_1629, w133_1631, w133_1633, w133_1634, w133_1635, w133_1636, w133_1637, w133_1640, w133_1642, w133_1645, w133_1647, w133_1649, w133_1650, w133_1651, w133_1652, w133_1653, w133_1656, w133_1658, w133_1660, w133_1661, w133_1662, w133_1663, w133_1664, w133_1667, w133_1669, w133_1670, w133_1672, w133_1673, w133_1676, w133_1678, w133_1679, w133_1682, w133_1684, w133_1687, w133_1689, w133_1691, w133_1692, w133_1693, w133_1694, w133_1697, w133_1699, w133_1702, w133_1704, w133_1705, w133_1708, w133_1709, w133_1712, w133_1714, w133_1719, w133_1720, ks_0, c1, c2, m1, m2, m3, m4, hab, obb, hob, gn, ga, gb, hGa, hGb, n01, gl, nI_shl 1 (show c 0 < 32 by omega), (by decide : ¬ nI 2 ≤ nI (0 + 1)), nI_andn, hGo, cm, m6, m7, ↓reduceIte, Option.toList_some, Option.toList_none, List.cons_append, List.nil_append, Bool.false_eq_true]
        exact fin
      · have m5 : nI 2 ≤ nI (d + 1) := nI_le (by omega) (by omega)
        simp only [w133_1562, w133_1563, w133_1565, w133_1567, w133_1569, w133_1572, w133_1574, w133_1575, w133_1577, w133_1579, w133_1581, w133_1584, w133_1586, w133_1588, w133_1589, w133_1592, w133_1594, w133_1596, w133_1599, w133_1601, w133_1604, w133_1605, w133_1608, w133_1609, w133_1611, w133_1613, w133_1616, w133_1617, w133_1620, w133_1621, w133_1624, w133_1626, w133_1629, w133_1631, w133_1633, w133_1634, w133_1635, w133_1636, w133_1637, w133_1640, w133_1642, w133_1645, w133_1647, w133_1649, w133_1650, w133_1651, w133_1652, w133_1653, w133_1656, w133_1658, w133_1660, w133_1661, w133_1662, w133_1663, w133_1664, w133_1667, w133_1669, w133_1670, w133_1672, w133_1673, w133_1676, w133_1678, w133_1679, w133_1682, w133_1684, w133_1687, w133_1689, w133_1691, w133_1692, w133_1693, w133_1694, w133_1697, w133_1699, w133_1702, w133_1704, w133_1705, w133_1708, w133_1709, w133_1712, w133_1714, w133_1719, w133_1720, ks_0, c1, c2, m1, m2, m3, m4, m5, hab, obb, hob, gn, ga, gb, hGa, hGb, n01, gl, nI_shl 1 (show c 0 < 32 by omega), nI_andn, hGo, cm, m6, m7, ↓reduceIte, Option.toList_some, Option.toList_none, List.cons_append, List.nil_append, Bool.false_eq_true]
        exact fin
end LW7
