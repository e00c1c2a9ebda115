/-! calls that only look: both sides answer alike -/
/-- where one can be by all that was heard -/
def hrN (c hs ht : Nat → Nat) (h : Nat) : Nat := if h = 0 then 0 else heN c hs ht (h - 1) (c 0)
def bgN (c hs ht : Nat → Nat) (h : Nat) : Nat := if h = 0 then 0 else stN c hs ht (h - 1) (c 0)
theorem hrN_lt {c hs ht : Nat → Nat} {h : Nat} (hw : WC c) (hht : ∀ k, ht k < 3) : hrN c hs ht h < 256 := by
  unfold hrN
  split
  · decide
  · exact Nat.lt_of_lt_of_le (heN_lt hw hht _ (Nat.le_refl _)) (Nat.le_trans (Nat.pow_le_pow_right (by decide) hw.1) (by decide : 2 ^ 8 ≤ 256))
section RD
variable {σ : dm_G} {c n hs ht : Nat → Nat} {h : Nat} {P D : Nat} {Q : Option Value → dm_G → Prop}
theorem c_hereC (hw : WC c) (hht : ∀ k, ht k < 3) (hHe : cHe c h hs ht σ) : Cq 27 [(.ref (105 : Nat))] σ Q = Q (some (.int (nI (hrN c hs ht h)))) σ := by
  obtain ⟨a2, a0, a1⟩ := hHe
  unfold hrN
  by_cases z : h = 0
  · rw [if_pos z, c_cHere (s := 0) (f := fun _ => 0) a2 (a0 z).2 (by decide) (fun x _ hb => by simp at hb), he8_0]
  · obtain ⟨-, e1, e2⟩ := a1 (by omega)
    have hp : 2 ^ c 0 ≤ 2 ^ 8 := Nat.pow_le_pow_right (by decide) hw.1
    have hlt := stN_lt (c := c) (hs := hs) (ht := ht) (k := h - 1) (c 0)
    rw [if_neg z, c_cHere (s := stN c hs ht (h - 1) (c 0)) (f := fun x => psN c ht x (h - 1)) a2 e1 (by omega) ?_, he8_eq, Nat.min_eq_right hw.1]
    intro x hx hb
    have hx0 : x < c 0 := by
      by_cases hx0 : x < c 0
      · exact hx0
      · rw [tb_lt hlt (by omega)] at hb
        cases hb
    exact ⟨Nat.lt_of_lt_of_le (psN_lt hw hht hx0 _) (by have := hw.1; omega), e2 x hx0⟩
end RD
