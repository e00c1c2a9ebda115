/-! the law's small methods -/
section LSM
variable {N : Nat} {xs : Nat → Int32} {σ : dm_G} {c n : Nat → Nat} {k : Nat} {p : Nat → Nat → Nat} {q : Nat} {im : Nat → Nat → Nat} {h : Nat} {hs ht : Nat → Nat} {m : Nat} {bg bx : Nat → Nat} {L : Nat} {tx : Nat → Nat} {f : Int32} {s : Nat}
def partV (x : Int32) (d : Nat) : Nat := x.toBitVec.toNat % 2 ^ 31 % d
theorem partV_lt (x : Int32) {d : Nat} (h0 : 0 < d) : partV x d < d := Nat.mod_lt _ h0
theorem q_part (x : Int32) {d : Nat} (h0 : 0 < d) (hd : d < 2 ^ 31) : Es (some (N, xs)) 124 [.int x, .int (nI d)] σ (some (.int (nI (partV x d)))) σ := by
  have e := pk_and x (m := nI 2147483647) 31 rfl
  have hj : x.toBitVec.toNat % 2 ^ 31 < 2 ^ 31 := Nat.mod_lt _ (by decide)
  refine Es_of ?_
  show Wq (some (N, xs)) 124 0 [some (.int x), some (.int (nI d))] [] σ _
  simp only [w124_0, w124_1, w124_3, w124_4, w124_5, w124_6, e, nI_ne0 h0 hd, not_false_eq_true, pk_rem hj h0 hd, and_self, partV]
theorem Es_v {scr : dm_Sc} {y : Nat} {as : List Value} {P : Int32 → dm_G → Prop} (h : Wq scr y 0 (dm_in0 y as) [] σ (fun r' τ => ∃ v : Int32, r' = some (.int v) ∧ P v τ)) : ∃ v τ, Es scr y as σ (some (.int v)) τ ∧ P v τ := by
  obtain ⟨m, r, τ, h1, v, rfl, h2⟩ := h
  exact ⟨v, τ, ⟨m, h1⟩, h2⟩
def cellV (N : Nat) (xs : Nat → Int32) (a : Nat) : Int32 := if N = 0 then nI 7919 * nI a + nI 3 else xs (nI (a % N)).toNatClampNeg >>> ((nI a - nI a / nI 7 * nI 7) &&& 31) ^^^ nI a / nI N * nI 31 ^^^ nI a * nI 2654435
theorem q_cell {a : Nat} (ha : a < 2 ^ 31) (hN : N < 2 ^ 31) : Es (some (N, xs)) 125 [.retAddr 0, .int (nI a)] σ (some (.int (cellV N xs a))) σ := by
  refine Es_of ?_
  show Wq (some (N, xs)) 125 0 [some (.retAddr 0), some (.int (nI a))] [] σ _
  unfold cellV
  by_cases h0 : N = 0
  · subst h0
    simp only [w125_0, w125_1, w125_2, w125_5, w125_8, w125_9, w125_10, w125_11, w125_12, w125_15, w125_16, w125_17, w125_18, w125_19, w125_20, w125_20s, w125_21, w125_22, w125_24, w125_25, w125_26, w125_27, w125_28, w125_29, w125_30, w125_32, w125_33, w125_34, w125_35, w125_37, w125_38, w125_39, ↓reduceIte, Option.toList_some, Option.toList_none, List.cons_append, List.nil_append, and_self]
  · have h1 : ¬ nI N = nI 0 := fun z => h0 (nI_inj hN (by omega) z)
    have h2 : ¬ nI N = 0 := nI_ne0 (by omega) hN
    have hm : a % N < N := Nat.mod_lt _ (by omega)
    have hi : dm_in (nI (a % N)) N = true := in_nI hm hN
    simp only [w125_0, w125_1, w125_2, w125_5, w125_8, w125_9, w125_10, w125_11, w125_12, w125_15, w125_16, w125_17, w125_18, w125_19, w125_20, w125_20s, w125_21, w125_22, w125_24, w125_25, w125_26, w125_27, w125_28, w125_29, w125_30, w125_32, w125_33, w125_34, w125_35, w125_37, w125_38, w125_39, h1, h2, h0, (by decide : ¬ nI 7 = 0), not_false_eq_true, pk_rem ha (show 0 < N by omega) hN, hi, ↓reduceIte, Option.toList_some, Option.toList_none, List.cons_append, List.nil_append, and_self]
theorem q_many {s' : Nat} (hs : s' < 2 ^ 31) : Es (some (N, xs)) 128 [.int (nI s')] σ (some (.int (nI (cnt s' 8)))) σ := by
  have key : ∀ (f i : Nat), i + f = 8 → Wq (some (N, xs)) 128 4 [some (.int (nI s')), some (.int (nI (cnt s' i))), some (.int (nI i))] [] σ (fun r' σ2 => r' = some (.int (nI (cnt s' 8))) ∧ σ2 = σ) := by
    intro f
    induction f with
    | zero =>
      intro i hi
      obtain rfl : i = 8 := by omega
      rw [w128_4]
      simp only [w128_0, w128_1, w128_2, w128_3, w128_5, w128_7, w128_10, w128_11, w128_12, w128_13, w128_14, w128_15, w128_16, w128_17, w128_18, w128_21, w128_24, w128_25, nI_le (Nat.le_refl 8) (show 8 < 2 ^ 31 by omega), ↓reduceIte, Option.toList_some, Option.toList_none, List.cons_append, List.nil_append, and_self]
    | succ f ih =>
      intro i hi
      have h1 : ¬ nI 8 ≤ nI i := nI_ge (by omega) (by omega)
      have h2 := ih (i + 1) (by omega)
      rw [cnt] at h2
      rw [w128_4]
      by_cases hb : s'.testBit i = true
      · rw [if_pos hb] at h2
        simp only [w128_0, w128_1, w128_2, w128_3, w128_5, w128_7, w128_10, w128_11, w128_12, w128_13, w128_14, w128_15, w128_16, w128_17, w128_18, w128_21, w128_24, w128_25, h1, nI_bit hs (show i < 32 by omega), hb, nI_add, ↓reduceIte, Option.toList_some, Option.toList_none, List.cons_append, List.nil_append]
        exact h2
      · rw [if_neg hb] at h2
        simp only [w128_0, w128_1, w128_2, w128_3, w128_5, w128_7, w128_10, w128_11, w128_12, w128_13, w128_14, w128_15, w128_16, w128_17, w128_18, w128_21, w128_24, w128_25, h1, nI_bit hs (show i < 32 by omega), hb, nI_add, ↓reduceIte, Option.toList_some, Option.toList_none, List.cons_append, List.nil_append, Bool.false_eq_true]
        exact h2
  refine Es_of ?_
  show Wq (some (N, xs)) 128 0 [some (.int (nI s')), none, none] [] σ _
  have h := key 8 0 (by omega)
  rw [show cnt s' 0 = 0 from rfl] at h
  simp only [w128_0, w128_1, w128_2, w128_3, w128_5, w128_7, w128_10, w128_11, w128_12, w128_13, w128_14, w128_15, w128_16, w128_17, w128_18, w128_21, w128_24, w128_25]
  exact h
theorem q_number {v : Nat} (hK : KA c n k p q im h hs ht m bg bx L tx f s σ) (hv : v ≤ 999) (hL : L + nl v ≤ 240) : ∃ τ tx', Es (some (N, xs)) 126 [(.ref (0 : Nat)), .int (nI v)] σ none τ ∧ KA c n k p q im h hs ht m bg bx (L + nl v) tx' f s τ ∧ FZ σ τ ∧ (∀ i, i < L → tx' i = tx i) ∧ nAt tx' L v := by
  have n1 := nd_1 v
  have hl : nl v = 1 + nd v := rfl
  have m10 : v % 10 < 10 := Nat.mod_lt _ (by omega)
  have m1 : v / 10 % 10 < 10 := Nat.mod_lt _ (by omega)
  have d1 : ¬ nI 10 = 0 := by decide
  have d2 : ¬ nI 100 = 0 := by decide
  obtain ⟨τ1, e1, K1, f1⟩ := q_feed hK (e := 32) (by omega) (by omega)
  have c1 := fun Q => Cq_of (Q := Q) e1
  have r10 := pk_rem (a := v) (d := 10) (by omega) (by omega) (by omega)
  have q10 := pk_div (a := v) (d := 10) (by omega) (by omega) (by omega)
  have r10' := r10
  rw [q10] at r10'
  have r11 := pk_rem (a := v / 10) (d := 10) (by omega) (by omega) (by omega)
  have q100 := pk_div (a := v) (d := 100) (by omega) (by omega) (by omega)
  by_cases z1 : v ≤ 9
  · have e1n : nd v = 1 := by unfold nd; rw [if_pos z1]
    have em : v % 10 = v := Nat.mod_eq_of_lt (by omega)
    obtain ⟨τ2, e2, K2, f2⟩ := q_feed K1 (e := 48 + v % 10) (by omega) (by omega)
    have c2 := fun Q => Cq_of (Q := Q) e2
    have h1 : nI v ≤ nI 99 := nI_le (by omega) (by omega)
    have h2 : nI v ≤ nI 9 := nI_le (by omega) (by omega)
    refine ⟨τ2, up1 (up1 tx L 32) (L + 1) (48 + v % 10), Es_of ?_, by rw [hl, e1n]; exact K2, f1.tr f2, fun i hi => by rw [up1_ne (by omega), up1_ne (by omega)], ⟨by rw [up1_ne (by omega), up1_eq], ⟨fun _ => by rw [up1_eq, em], fun z => by omega, fun z => by omega⟩⟩⟩
    show Wq (some (N, xs)) 126 0 [some (.ref (0 : Nat)), some (.int (nI v))] [] σ _
    simp only [w126_0, w126_1, w126_3, w126_6, w126_7, w126_8, w126_10, w126_13, w126_14, w126_16, w126_17, w126_19, w126_20, w126_21, w126_24, w126_25, w126_26, w126_28, w126_31, w126_32, w126_34, w126_35, w126_37, w126_38, w126_40, w126_41, w126_42, w126_45, w126_46, w126_47, w126_49, w126_50, w126_52, w126_53, w126_54, w126_57, w126_58, ks_0, c1, h1, h2, d1, not_false_eq_true, r10, nI_add, c2, ↓reduceIte, Option.toList_some, Option.toList_none, List.cons_append, List.nil_append, and_self]
  · by_cases z2 : v ≤ 99
    · have e1n : nd v = 2 := by unfold nd; rw [if_neg z1, if_pos z2]
      have em : v / 10 % 10 = v / 10 := Nat.mod_eq_of_lt (by omega)
      obtain ⟨τ2, e2, K2, f2⟩ := q_feed K1 (e := 48 + v / 10 % 10) (by omega) (by omega)
      obtain ⟨τ3, e3, K3, f3⟩ := q_feed K2 (e := 48 + v % 10) (by omega) (by omega)
      have c2 := fun Q => Cq_of (Q := Q) e2
      have c3 := fun Q => Cq_of (Q := Q) e3
      have h1 : nI v ≤ nI 99 := nI_le (by omega) (by omega)
      have h2 : ¬ nI v ≤ nI 9 := nI_ge (by omega) (by omega)
      refine ⟨τ3, up1 (up1 (up1 tx L 32) (L + 1) (48 + v / 10 % 10)) (L + 1 + 1) (48 + v % 10), Es_of ?_, by rw [hl, e1n]; exact K3, (f1.tr f2).tr f3, fun i hi => by rw [up1_ne (by omega), up1_ne (by omega), up1_ne (by omega)], ⟨by rw [up1_ne (by omega), up1_ne (by omega), up1_eq], ⟨fun z => by omega, fun _ _ => ⟨by rw [up1_ne (by omega), up1_eq, em], by rw [up1_eq]⟩, fun z => by omega⟩⟩⟩
      show Wq (some (N, xs)) 126 0 [some (.ref (0 : Nat)), some (.int (nI v))] [] σ _
      simp only [w126_0, w126_1, w126_3, w126_6, w126_7, w126_8, w126_10, w126_13, w126_14, w126_16, w126_17, w126_19, w126_20, w126_21, w126_24, w126_25, w126_26, w126_28, w126_31, w126_32, w126_34, w126_35, w126_37, w126_38, w126_40, w126_41, w126_42, w126_45, w126_46, w126_47, w126_49, w126_50, w126_52, w126_53, w126_54, w126_57, w126_58, ks_0, c1, h1, h2, d1, not_false_eq_true, r10', q10, r11, nI_add, c2, c3, ↓reduceIte, Option.toList_some, Option.toList_none, List.cons_append, List.nil_append, and_self]
    · have e1n : nd v = 3 := by unfold nd; rw [if_neg z1, if_neg z2]
      obtain ⟨τ2, e2, K2, f2⟩ := q_feed K1 (e := 48 + v / 100) (by omega) (by omega)
      obtain ⟨τ3, e3, K3, f3⟩ := q_feed K2 (e := 48 + v / 10 % 10) (by omega) (by omega)
      obtain ⟨τ4, e4, K4, f4⟩ := q_feed K3 (e := 48 + v % 10) (by omega) (by omega)
      have c2 := fun Q => Cq_of (Q := Q) e2
      have c3 := fun Q => Cq_of (Q := Q) e3
      have c4 := fun Q => Cq_of (Q := Q) e4
      have h1 : ¬ nI v ≤ nI 99 := nI_ge (by omega) (by omega)
      have h2 : ¬ nI v ≤ nI 9 := nI_ge (by omega) (by omega)
      refine ⟨τ4, up1 (up1 (up1 (up1 tx L 32) (L + 1) (48 + v / 100)) (L + 1 + 1) (48 + v / 10 % 10)) (L + 1 + 1 + 1) (48 + v % 10), Es_of ?_, by rw [hl, e1n]; exact K4, ((f1.tr f2).tr f3).tr f4, fun i hi => by rw [up1_ne (by omega), up1_ne (by omega), up1_ne (by omega), up1_ne (by omega)], ⟨by rw [up1_ne (by omega), up1_ne (by omega), up1_ne (by omega), up1_eq], ⟨fun z => by omega, fun _ z => by omega, fun _ => ⟨by rw [up1_ne (by omega), up1_ne (by omega), up1_eq], by rw [up1_ne (by omega), up1_eq], by rw [up1_eq]⟩⟩⟩⟩
      show Wq (some (N, xs)) 126 0 [some (.ref (0 : Nat)), some (.int (nI v))] [] σ _
      simp only [w126_0, w126_1, w126_3, w126_6, w126_7, w126_8, w126_10, w126_13, w126_14, w126_16, w126_17, w126_19, w126_20, w126_21, w126_24, w126_25, w126_26, w126_28, w126_31, w126_32, w126_34, w126_35, w126_37, w126_38, w126_40, w126_41, w126_42, w126_45, w126_46, w126_47, w126_49, w126_50, w126_52, w126_53, w126_54, w126_57, w126_58, ks_0, c1, h1, h2, d1, d2, not_false_eq_true, r10', q10, r11, q100, nI_add, c2, c3, c4, ↓reduceIte, Option.toList_some, Option.toList_none, List.cons_append, List.nil_append, and_self]
end LSM
