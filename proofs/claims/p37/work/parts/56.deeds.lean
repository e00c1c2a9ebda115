/-! deeds: nights, walls, learnt, forgotten, led nowhere -/
def up1 (f : Nat → Nat) (k v : Nat) : Nat → Nat := fun a => if a = k then v else f a
theorem up1_eq {f : Nat → Nat} {k v : Nat} : up1 f k v k = v := if_pos rfl
theorem up1_ne {f : Nat → Nat} {k v a : Nat} (h : a ≠ k) : up1 f k v a = f a := if_neg h
theorem up1_self {f : Nat → Nat} {k : Nat} : up1 f k (f k) = f := by
  funext a
  unfold up1
  split
  · next h => rw [h]
  · rfl
theorem up1_up1 {f : Nat → Nat} {k v w : Nat} : up1 (up1 f k v) k w = up1 f k w := by
  funext a
  unfold up1
  split
  · rfl
  · rfl
section DE
variable {σ σ' : dm_G} {Q : Option Value → dm_G → Prop} {S G : Nat} {c n : Nat → Nat} {k : Nat} {p : Nat → Nat → Nat} {q : Nat} {im : Nat → Nat → Nat} {h : Nat} {hs ht : Nat → Nat} {m : Nat} {bg bx : Nat → Nat} {L : Nat} {tx : Nat → Nat} {f : Int32} {s : Nat}
theorem CN_u {i g v : Nat} (hG : G ≤ 6) (hg : g < 6) (hi : i < 3) (hN : CN σ S G n) : CN (dm_up σ (S + 1 + i) g (.int (nI v))) S G (up1 n (6 * i + g) v) := by
  obtain ⟨kS, ⟨q0, q1, q2⟩, ⟨j3, j4, j5, j6⟩, jf⟩ := hN
  have h0 : ∀ b, dm_up σ (S + 1 + i) g (.int (nI v)) S b = σ S b := fun b => by rw [up_get, if_neg (by omega)]
  refine ⟨kS, ⟨(h0 0).trans q0, (h0 1).trans q1, (h0 2).trans q2⟩, ⟨?_, ?_, ?_, ?_⟩, fun x hx => ?_⟩
  · rw [h0, up1_ne (by omega)]; exact j3
  · rw [h0, up1_ne (by omega)]; exact j4
  · rw [h0, up1_ne (by omega)]; exact j5
  · rw [h0, up1_ne (by omega)]; exact j6
  · obtain ⟨a1, a2, a3⟩ := jf x hx
    refine ⟨?_, ?_, ?_⟩
    · rw [gi_up]
      by_cases z : i = 0 ∧ x = g
      · rw [if_pos (by omega), show x = 6 * i + g by omega, up1_eq]
      · rw [if_neg (by omega), up1_ne (by omega)]; exact a1
    · rw [gi_up]
      by_cases z : i = 1 ∧ x = g
      · rw [if_pos (by omega), show 6 + x = 6 * i + g by omega, up1_eq]
      · rw [if_neg (by omega), up1_ne (by omega)]; exact a2
    · rw [gi_up]
      by_cases z : i = 2 ∧ x = g
      · rw [if_pos (by omega), show 12 + x = 6 * i + g by omega, up1_eq]
      · rw [if_neg (by omega), up1_ne (by omega)]; exact a3
theorem CN_f {b i v : Nat} (hG : G ≤ 6) (hb : (b = 3 ∧ i = 19) ∨ (b = 4 ∧ i = 18) ∨ (b = 5 ∧ i = 20) ∨ (b = 6 ∧ i = 21)) (hN : CN σ S G n) : CN (dm_up σ S b (.int (nI v))) S G (up1 n i v) := by
  obtain ⟨kS, ⟨q0, q1, q2⟩, ⟨j3, j4, j5, j6⟩, jf⟩ := hN
  have h0 : ∀ x, x ≠ b → dm_up σ S b (.int (nI v)) S x = σ S x := fun x z => by rw [up_get, if_neg (fun w => z w.2)]
  have h1 : dm_up σ S b (.int (nI v)) S b = .int (nI v) := by rw [up_get, if_pos ⟨rfl, rfl⟩]
  have h2 : ∀ j x, 1 ≤ j → gi (dm_up σ S b (.int (nI v))) (S + j) x = gi σ (S + j) x := fun j x z => by rw [gi_up, if_neg (by omega)]
  refine ⟨kS, ⟨(h0 0 (by omega)).trans q0, (h0 1 (by omega)).trans q1, (h0 2 (by omega)).trans q2⟩, ⟨?_, ?_, ?_, ?_⟩, fun x hx => ?_⟩
  · by_cases z : b = 3
    · have : i = 19 := by omega
      subst z; subst this
      rw [h1, up1_eq]
    · rw [h0 3 (by omega), up1_ne (by omega)]; exact j3
  · by_cases z : b = 4
    · have : i = 18 := by omega
      subst z; subst this
      rw [h1, up1_eq]
    · rw [h0 4 (by omega), up1_ne (by omega)]; exact j4
  · by_cases z : b = 5
    · have : i = 20 := by omega
      subst z; subst this
      rw [h1, up1_eq]
    · rw [h0 5 (by omega), up1_ne (by omega)]; exact j5
  · by_cases z : b = 6
    · have : i = 21 := by omega
      subst z; subst this
      rw [h1, up1_eq]
    · rw [h0 6 (by omega), up1_ne (by omega)]; exact j6
  · obtain ⟨a1, a2, a3⟩ := jf x hx
    rw [h2 1 x (by omega), h2 2 x (by omega), h2 3 x (by omega), up1_ne (by omega), up1_ne (by omega), up1_ne (by omega)]
    exact ⟨a1, a2, a3⟩
theorem CA_u {i g v : Nat} (hG : c 2 ≤ 6) (hg : g < 6) (hi : i < 3) (hCA : CA c n k p q im h hs ht m bg bx L tx f s σ) : CA c (up1 n (6 * i + g) v) k p q im h hs ht m bg bx L tx f s (dm_up σ (24 + 1 + i) g (.int (nI v))) := CA_now hCA (fun a b z => by rw [up_get, if_neg (by omega)]) (CN_u hG hg hi hCA.2.1)
theorem CA_f {b i v : Nat} (hG : c 2 ≤ 6) (hb : (b = 3 ∧ i = 19) ∨ (b = 4 ∧ i = 18) ∨ (b = 5 ∧ i = 20) ∨ (b = 6 ∧ i = 21)) (hCA : CA c n k p q im h hs ht m bg bx L tx f s σ) : CA c (up1 n i v) k p q im h hs ht m bg bx L tx f s (dm_up σ 24 b (.int (nI v))) := CA_now hCA (fun a b z => by rw [up_get, if_neg (by omega)]) (CN_f hG hb hCA.2.1)
theorem WN_g {i g v : Nat} (hn : WN c n) (hw : WC c) (hg : g < c 2) (hi : i < 3) (h0 : i = 0 → v < c 0) (h1 : i = 1 → v < 2 ^ c 0) (h2 : i = 2 → v < 2 ^ c 3) : WN c (up1 n (6 * i + g) v) := by
  obtain ⟨hn1, hn18, hn19, hn20, hn21⟩ := hn
  have w2 := hw.2.1
  refine ⟨fun x hx => ?_, ?_, ?_, ?_, ?_⟩
  · obtain ⟨a1, a2, a3⟩ := hn1 x hx
    refine ⟨?_, ?_, ?_⟩
    · by_cases z : x = 6 * i + g
      · rw [z, up1_eq]; exact h0 (by omega)
      · rw [up1_ne z]; exact a1
    · by_cases z : 6 + x = 6 * i + g
      · rw [z, up1_eq]; exact h1 (by omega)
      · rw [up1_ne z]; exact a2
    · by_cases z : 12 + x = 6 * i + g
      · rw [z, up1_eq]; exact h2 (by omega)
      · rw [up1_ne z]; exact a3
  · rw [up1_ne (by omega)]; exact hn18
  · rw [up1_ne (by omega)]; exact hn19
  · rw [up1_ne (by omega)]; exact hn20
  · rw [up1_ne (by omega)]; exact hn21
theorem WN_19 {v : Nat} (hn : WN c n) (hw : WC c) (h1 : v < 2 ^ c 0) : WN c (up1 n 19 v) := by
  obtain ⟨hn1, hn18, hn19, hn20, hn21⟩ := hn
  have w2 := hw.2.1
  refine ⟨fun x hx => ?_, ?_, ?_, ?_, ?_⟩
  · rw [up1_ne (by omega), up1_ne (by omega), up1_ne (by omega)]
    exact hn1 x hx
  · rw [up1_ne (by omega)]; exact hn18
  · rw [up1_eq]; exact h1
  · rw [up1_ne (by omega)]; exact hn20
  · rw [up1_ne (by omega)]; exact hn21
theorem WN_nt {v : Nat} (hn : WN c n) (hw : WC c) (h1 : v ≤ 9060) : WN c (up1 (up1 n 20 v) 18 0) := by
  obtain ⟨hn1, hn18, hn19, hn20, hn21⟩ := hn
  have w2 := hw.2.1
  refine ⟨fun x hx => ?_, ?_, ?_, ?_, ?_⟩
  · rw [up1_ne (by omega), up1_ne (by omega), up1_ne (by omega), up1_ne (by omega), up1_ne (by omega), up1_ne (by omega)]
    exact hn1 x hx
  · rw [up1_eq]; exact Nat.two_pow_pos _
  · rw [up1_ne (by omega), up1_ne (by omega)]; exact hn19
  · rw [up1_ne (by omega), up1_eq]; exact h1
  · rw [up1_ne (by omega), up1_ne (by omega)]; exact hn21
theorem up_lo {a0 b0 : Nat} {v : Value} (h0 : 118 ≤ a0) : ∀ a b, a < 118 → dm_up σ a0 b0 v a b = σ a b := fun a b z => by rw [up_get, if_neg (by omega)]
theorem up_hi {a0 b0 : Nat} {v : Value} (h0 : a0 < 118) : ∀ a b, 118 ≤ a → dm_up σ a0 b0 v a b = σ a b := fun a b z => by rw [up_get, if_neg (by omega)]
-- learn
-- forget
end DE
