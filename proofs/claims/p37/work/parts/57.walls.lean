/-! walls, led nowhere, nights -/
section WL
variable {σ σ' : dm_G} {Q : Option Value → dm_G → Prop} {S G : Nat} {c n : Nat → Nat} {k : Nat} {p : Nat → Nat → Nat} {q : Nat} {im : Nat → Nat → Nat} {h : Nat} {hs ht : Nat → Nat} {m : Nat} {bg bx : Nat → Nat} {L : Nat} {tx : Nat → Nat} {f : Int32} {s : Nat}
theorem xor_or {a x : Nat} (h : a.testBit x = false) : a ^^^ 1 <<< x = a ||| 1 <<< x := Nat.eq_of_testBit_eq fun i => by
  rw [Nat.testBit_xor, Nat.testBit_or, tb_shl1]
  by_cases z : x = i
  · subst z; rw [h]; simp
  · simp [z]
theorem xor_an {a x : Nat} (h : a.testBit x = true) : a ^^^ 1 <<< x = andn a (1 <<< x) := Nat.eq_of_testBit_eq fun i => by
  rw [Nat.testBit_xor, andn_tb, tb_shl1]
  by_cases z : x = i
  · subst z; rw [h]; simp
  · simp [z]
theorem or_id {a x : Nat} (h : a.testBit x = true) : a ||| 1 <<< x = a := Nat.eq_of_testBit_eq fun i => by
  rw [Nat.testBit_or, tb_shl1]
  by_cases z : x = i
  · subst z; rw [h]; simp
  · simp [z]
theorem an_id {a x : Nat} (h : a.testBit x = false) : andn a (1 <<< x) = a := Nat.eq_of_testBit_eq fun i => by
  rw [andn_tb, tb_shl1]
  by_cases z : x = i
  · subst z; rw [h]; simp
  · simp [z]
/-- the walls behind: is (1) or none (0) at x -/
def waN (a x b : Nat) : Nat := if b = 0 then andn a (1 <<< x) else a ||| 1 <<< x
theorem waN_lt {a x b N : Nat} (ha : a < 2 ^ N) (hx : x < N) : waN a x b < 2 ^ N := by
  unfold waN
  split
  · exact andn_lt ha
  · exact or_lt ha (one_shl hx)
-- led nowhere
def nwS (c : Nat → Nat) (o x : Nat) : Nat := if o.testBit (c (13 + (3 * x + 0))) = true then c (13 + (3 * x + 0)) else x
def nwN (c : Nat → Nat) (o : Nat) : Nat → Nat → Nat := fun k x => match k with
  | 0 => x
  | k + 1 => nwN c o k (nwS c o x)
theorem nwN_fix {o x : Nat} (hx : nwS c o x = x) : ∀ k, nwN c o k x = x := by
  intro k
  induction k with
  | zero => rfl
  | succ k ih => rw [nwN, hx]; exact ih
theorem nwS_lt (hw : WC c) {o x : Nat} (hx : x < c 0) : nwS c o x < c 0 := by
  unfold nwS
  split
  · exact hw.2.2.2.2.2.1 (3 * x + 0) (by omega)
  · exact hx
theorem nwN_lt (hw : WC c) {o : Nat} : ∀ k x, x < c 0 → nwN c o k x < c 0 := by
  intro k
  induction k with
  | zero => intro x hx; exact hx
  | succ k ih => intro x hx; exact ih _ (nwS_lt hw hx)
theorem l_cNw {P D g d : Nat} (hB : BR σ P D) (hC : CC σ P c) (hN : CN σ 24 (c 2) n) (hw : WC c) (hwn : WN c n) (hg : g < c 2) (hd : d < 2 ^ 31) : ∀ (k i x : Nat) (v5 : Option Value), i + k = d → x < c 0 → Wq none 88 54 [some (.ref (0 : Nat)), some (.int (nI g)), some (.int (nI d)), some (.int (nI x)), some (.int (nI i)), v5] [] σ Q = Q (some (.int (nI (nwN c (andn (n (6 + g)) (n 19)) k x)))) (dm_up σ 25 g (.int (nI (nwN c (andn (n (6 + g)) (n 19)) k x)))) := by
  obtain ⟨b0, b3, b4, b5, b6, b7, b8, b9, b10, b11, b12⟩ := id hB
  obtain ⟨w0, w2, w3, w4, w5, w6, w7, w8, w9⟩ := id hw
  obtain ⟨⟨kS, ⟨u1, v1⟩, ⟨u2, v2⟩, ⟨u3, v3⟩⟩, ⟨q0, q1, q2⟩, ⟨j3, j4, j5, j6⟩, jf⟩ := id hN
  have kP := hC.1.1
  have ho := andn_lt31 hw hwn hg
  intro k
  induction k with
  | zero =>
    intro i x v5 hi hx
    obtain rfl : i = d := by omega
    rw [w88_54]
    simp only [w88_0, w88_1, w88_4, w88_5, w88_8, w88_11, w88_13, w88_14, w88_15, w88_16, w88_19, w88_20, w88_22, w88_25, w88_27, w88_28, w88_29, w88_32, w88_33, w88_36, w88_39, w88_40, w88_43, w88_46, w88_47, w88_50, w88_51, w88_52, w88_56, w88_57, w88_60, w88_61, w88_64, w88_65, w88_66, w88_69, w88_71, w88_72, w88_75, w88_76, w88_79, w88_81, w88_82, w88_83, w88_84, w88_87, w88_90, w88_92, w88_93, w88_96, w88_99, w88_100, w88_103, w88_106, w88_107, w88_108, w88_111, w88_112, ks_0, ks_24, b6, q0, nI_le (Nat.le_refl i) hd, c_put u1 (show g < kl (24 + 1) by rw [v1]; omega) (by rw [v1]; omega), ↓reduceIte, Option.toList_some, Option.toList_none, List.cons_append, List.nil_append]
    rfl
  | succ k ih =>
    intro i x v5 hi hx
    have h1 : ¬ nI d ≤ nI i := nI_ge (by omega) hd
    have ht := w6 (3 * x + 0) (by omega)
    rw [w88_54]
    by_cases hb : (andn (n (6 + g)) (n 19)).testBit (c (13 + (3 * x + 0))) = true
    · have e : nwS c (andn (n (6 + g)) (n 19)) x = c (13 + (3 * x + 0)) := if_pos hb
      have ih := ih (i + 1) _ (some (.int (nI (c (13 + (3 * x + 0)))))) (by omega) (nwS_lt hw (o := andn (n (6 + g)) (n 19)) hx)
      rw [e] at ih
      simp only [w88_0, w88_1, w88_4, w88_5, w88_8, w88_11, w88_13, w88_14, w88_15, w88_16, w88_19, w88_20, w88_22, w88_25, w88_27, w88_28, w88_29, w88_32, w88_33, w88_36, w88_39, w88_40, w88_43, w88_46, w88_47, w88_50, w88_51, w88_52, w88_56, w88_57, w88_60, w88_61, w88_64, w88_65, w88_66, w88_69, w88_71, w88_72, w88_75, w88_76, w88_79, w88_81, w88_82, w88_83, w88_84, w88_87, w88_90, w88_92, w88_93, w88_96, w88_99, w88_100, w88_103, w88_106, w88_107, w88_108, w88_111, w88_112, ks_0, ks_24, kP, b4, b6, h1, c_endOf hC hw hx (show 0 < 3 by omega), c_openTo hN w2 hg, nI_bit ho (show c (13 + (3 * x + 0)) < 32 by omega), hb, nI_ne1, nI_add, ↓reduceIte, Option.toList_some, Option.toList_none, List.cons_append, List.nil_append]
      rw [ih]
      show _ = Q (some (.int (nI (nwN c _ k (nwS c _ x))))) (dm_up σ 25 g (.int (nI (nwN c _ k (nwS c _ x)))))
      rw [e]
    · have e : nwS c (andn (n (6 + g)) (n 19)) x = x := if_neg hb
      rw [nwN_fix e]
      simp only [w88_0, w88_1, w88_4, w88_5, w88_8, w88_11, w88_13, w88_14, w88_15, w88_16, w88_19, w88_20, w88_22, w88_25, w88_27, w88_28, w88_29, w88_32, w88_33, w88_36, w88_39, w88_40, w88_43, w88_46, w88_47, w88_50, w88_51, w88_52, w88_56, w88_57, w88_60, w88_61, w88_64, w88_65, w88_66, w88_69, w88_71, w88_72, w88_75, w88_76, w88_79, w88_81, w88_82, w88_83, w88_84, w88_87, w88_90, w88_92, w88_93, w88_96, w88_99, w88_100, w88_103, w88_106, w88_107, w88_108, w88_111, w88_112, ks_0, ks_24, kP, b4, b6, q0, h1, c_endOf hC hw hx (show 0 < 3 by omega), c_openTo hN w2 hg, nI_bit ho (show c (13 + (3 * x + 0)) < 32 by omega), hb, c_put u1 (show g < kl (24 + 1) by rw [v1]; omega) (by rw [v1]; omega), ↓reduceIte, Option.toList_some, Option.toList_none, List.cons_append, List.nil_append, Bool.false_eq_true]
-- nights
theorem CA_nt {v : Nat} (hG : c 2 ≤ 6) (hCA : CA c n k p q im h hs ht m bg bx L tx f s σ) : CA c (up1 (up1 n 20 v) 18 0) k p q im h hs ht m bg bx L tx f s (dm_up (dm_up σ 24 5 (.int (nI v))) 24 4 (.int (nI 0))) := CA_f (b := 4) (i := 18) hG (by omega) (CA_f (b := 5) (i := 20) hG (by omega) hCA)
end WL
