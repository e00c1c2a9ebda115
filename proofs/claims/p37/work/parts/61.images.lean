/-! images kept and gone back to, what is heard: both sides -/
theorem WN_22 {c n : Nat → Nat} {v : Nat} (hw : WC c) (hn : WN c n) : WN c (up1 n 22 v) := by
  obtain ⟨hn1, hn18, hn19, hn20, hn21⟩ := hn
  have w2 := hw.2.1
  refine ⟨fun x hx => ?_, ?_, ?_, ?_, ?_⟩
  · rw [up1_ne (by omega), up1_ne (by omega), up1_ne (by omega)]
    exact hn1 x hx
  · rw [up1_ne (by omega)]; exact hn18
  · rw [up1_ne (by omega)]; exact hn19
  · rw [up1_ne (by omega)]; exact hn20
  · rw [up1_ne (by omega)]; exact hn21
theorem CN_22 {σ : dm_G} {S G : Nat} {n : Nat → Nat} {v : Nat} (hG : G ≤ 6) (hN : CN σ S G n) : CN σ S G (up1 n 22 v) := by
  obtain ⟨kS, rS, ⟨j3, j4, j5, j6⟩, jf⟩ := hN
  refine ⟨kS, rS, ⟨?_, ?_, ?_, ?_⟩, fun x hx => ?_⟩
  · rw [up1_ne (by omega)]; exact j3
  · rw [up1_ne (by omega)]; exact j4
  · rw [up1_ne (by omega)]; exact j5
  · rw [up1_ne (by omega)]; exact j6
  · rw [up1_ne (by omega), up1_ne (by omega), up1_ne (by omega)]
    exact jf x hx
section IM
variable {σ σ' : dm_G} {Q : Option Value → dm_G → Prop} {S G : Nat} {c n : Nat → Nat} {k : Nat} {p : Nat → Nat → Nat} {q : Nat} {im : Nat → Nat → Nat} {h : Nat} {hs ht : Nat → Nat} {m : Nat} {bg bx : Nat → Nat} {L : Nat} {tx : Nat → Nat} {f : Int32} {s : Nat}
theorem tb_or1 {q i j : Nat} : (q ||| 1 <<< i).testBit j = (q.testBit j || decide (i = j)) := by rw [Nat.testBit_or, tb_shl1]
end IM
