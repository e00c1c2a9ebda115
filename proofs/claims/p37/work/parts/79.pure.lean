/-! the text, purely: a clause and the whole; what is told is well -/
def clT (L : Nat) (tx : Nat → Nat) (rd : Nat → Nat) (p : Nat) : (Nat × Nat × Nat) × (Nat → Nat) := if tx p = 110 then tN L tx rd p else if rd 0 = 0 then ((p, 1, p), rd) else if tx p = 99 then tX L tx rd p else if tx p = 103 then tG L tx rd p else if tx p = 101 then tE L tx rd p else if tx p = 109 then tM L tx rd p else ((p, 1, p), rd)
def prT (L : Nat) (tx : Nat → Nat) : Nat → Nat → (Nat → Nat) → (Nat × Nat × Nat) × (Nat → Nat) := fun f => match f with
  | 0 => fun p rd => ((p, 0, 0), rd)
  | f + 1 => fun p rd => if p < L then (if (clT L tx rd p).1.2.1 = 0 then prT L tx f (skB L tx (clT L tx rd p).1.1) (clT L tx rd p).2 else clT L tx rd p) else ((p, 0, 0), rd)
/-- what was read so far is well -/
def DW (rd : Nat → Nat) : Prop := WC rd ∧ rd 1 ≤ rd 0 ∧ (rd 0 = 0 → ∀ i, rd i = 0)
section PP
variable {L : Nat} {tx : Nat → Nat} {rd : Nat → Nat} {s : Nat × Nat × Nat}
theorem prS {f p : Nat} : prT L tx (f + 1) p rd = if p < L then (if (clT L tx rd p).1.2.1 = 0 then prT L tx f (skB L tx (clT L tx rd p).1.1) (clT L tx rd p).2 else clT L tx rd p) else ((p, 0, 0), rd) := rfl
theorem sg_gt {ch : Nat} (hc : ch < 2 ^ 31) (h : (psSg L tx ch s).2.1 = 0) : s.1 < (psSg L tx ch s).1 ∧ (psSg L tx ch s).1 ≤ L := by
  have h1 := lt_L (sg_z h).2 hc
  have h2 := skB_le (L := L) (tx := tx) s.1
  show s.1 < skB L tx s.1 + 1 ∧ skB L tx s.1 + 1 ≤ L
  omega
theorem nu_ge {l m : Nat} : s.1 ≤ (psNu L tx l m s).1 := by
  have h1 := nuE_le (L := L) (tx := tx) s.1
  have h2 := skB_le (L := L) (tx := tx) s.1
  show s.1 ≤ nuE L tx s.1
  omega
theorem mn_gt : ∀ (f p : Nat) (rd : Nat → Nat), (mnT L tx f p rd).1.2.1 = 0 → p < (mnT L tx f p rd).1.1 ∧ (mnT L tx f p rd).1.1 ≤ L := by
  intro f
  induction f with
  | zero => intro p rd h; exact absurd (show (1 : Nat) = 0 from h) (by omega)
  | succ f ih =>
    intro p rd
    rw [mnS]
    by_cases hk : kN L tx 0 9 p = 0
    · rw [if_pos hk]
      have hn := nuE_L hk
      have h2 := skB_le (L := L) (tx := tx) (nuE L tx p)
      by_cases y : ltI L tx (skB L tx (nuE L tx p)) = nI 44 ∧ ¬ f = 0
      · rw [if_pos y]
        intro h
        have := ih _ _ h
        omega
      · rw [if_neg y]
        intro h
        have h : (psSg L tx 59 (skB L tx (nuE L tx p), 0, 0)).2.1 = 0 := h
        have h3 := sg_gt (by omega) h
        have h3 : skB L tx (nuE L tx p) < (psSg L tx 59 (skB L tx (nuE L tx p), 0, 0)).1 ∧ (psSg L tx 59 (skB L tx (nuE L tx p), 0, 0)).1 ≤ L := h3
        show p < (psSg L tx 59 (skB L tx (nuE L tx p), 0, 0)).1 ∧ (psSg L tx 59 (skB L tx (nuE L tx p), 0, 0)).1 ≤ L
        omega
    · rw [if_neg hk]
      intro h
      exact absurd h hk
theorem clT_gt {p : Nat} (h : (clT L tx rd p).1.2.1 = 0) : p < (clT L tx rd p).1.1 ∧ (clT L tx rd p).1.1 ≤ L := by
  have w : ∀ ok, (psWo ok (p, 0, 0)).1 = p + 1 := fun _ => rfl
  revert h
  unfold clT
  by_cases a1 : tx p = 110
  · rw [if_pos a1]
    intro h
    have h1 := sg_gt (by omega) (show (psSg L tx 59 (psNu L tx 1 8 (psWo (decide (rd 0 = 0)) (p, 0, 0)))).2.1 = 0 from h)
    have h2 := nu_ge (L := L) (tx := tx) (l := 1) (m := 8) (s := psWo (decide (rd 0 = 0)) (p, 0, 0))
    rw [w] at h2
    exact ⟨Nat.lt_trans (by omega) h1.1, h1.2⟩
  · rw [if_neg a1]
    by_cases a2 : rd 0 = 0
    · rw [if_pos a2]
      intro h
      exact absurd (show (1 : Nat) = 0 from h) (by omega)
    · rw [if_neg a2]
      by_cases a3 : tx p = 99
      · rw [if_pos a3]
        intro h
        have h1 := sg_gt (by omega) (show (psSg L tx 59 (psNu L tx 0 (rd 0 - 1) (psNu L tx 0 (rd 0 - 1) (psNu L tx 0 (rd 0 - 1) (psNu L tx 0 5 (psWo (decide (rd 1 < rd 0)) (p, 0, 0))))))).2.1 = 0 from h)
        have h2 := nu_ge (L := L) (tx := tx) (l := 0) (m := 5) (s := psWo (decide (rd 1 < rd 0)) (p, 0, 0))
        have h3 := nu_ge (L := L) (tx := tx) (l := 0) (m := rd 0 - 1) (s := psNu L tx 0 5 (psWo (decide (rd 1 < rd 0)) (p, 0, 0)))
        have h4 := nu_ge (L := L) (tx := tx) (l := 0) (m := rd 0 - 1) (s := psNu L tx 0 (rd 0 - 1) (psNu L tx 0 5 (psWo (decide (rd 1 < rd 0)) (p, 0, 0))))
        have h5 := nu_ge (L := L) (tx := tx) (l := 0) (m := rd 0 - 1) (s := psNu L tx 0 (rd 0 - 1) (psNu L tx 0 (rd 0 - 1) (psNu L tx 0 5 (psWo (decide (rd 1 < rd 0)) (p, 0, 0)))))
        rw [w] at h2
        exact ⟨Nat.lt_trans (by omega) h1.1, h1.2⟩
      · rw [if_neg a3]
        by_cases a4 : tx p = 103
        · rw [if_pos a4]
          intro h
          have h1 := sg_gt (by omega) (show (psSg L tx 59 (psNu L tx 1 (2 ^ rd 0 - 1) (psNu L tx 0 99 (psNu L tx 0 (rd 0 - 1) (psWo (decide (rd 2 < 6)) (p, 0, 0)))))).2.1 = 0 from h)
          have h2 := nu_ge (L := L) (tx := tx) (l := 0) (m := rd 0 - 1) (s := psWo (decide (rd 2 < 6)) (p, 0, 0))
          have h3 := nu_ge (L := L) (tx := tx) (l := 0) (m := 99) (s := psNu L tx 0 (rd 0 - 1) (psWo (decide (rd 2 < 6)) (p, 0, 0)))
          have h4 := nu_ge (L := L) (tx := tx) (l := 1) (m := 2 ^ rd 0 - 1) (s := psNu L tx 0 99 (psNu L tx 0 (rd 0 - 1) (psWo (decide (rd 2 < 6)) (p, 0, 0))))
          rw [w] at h2
          exact ⟨Nat.lt_trans (by omega) h1.1, h1.2⟩
        · rw [if_neg a4]
          by_cases a5 : tx p = 101
          · rw [if_pos a5]
            intro h
            have h1 := sg_gt (by omega) (show (psSg L tx 59 (psNu L tx 0 (rd 0 - 1) (psNu L tx 0 (rd 0 - 1) (psWo (decide (rd 3 < 6)) (p, 0, 0))))).2.1 = 0 from h)
            have h2 := nu_ge (L := L) (tx := tx) (l := 0) (m := rd 0 - 1) (s := psWo (decide (rd 3 < 6)) (p, 0, 0))
            have h3 := nu_ge (L := L) (tx := tx) (l := 0) (m := rd 0 - 1) (s := psNu L tx 0 (rd 0 - 1) (psWo (decide (rd 3 < 6)) (p, 0, 0)))
            rw [w] at h2
            exact ⟨Nat.lt_trans (by omega) h1.1, h1.2⟩
          · rw [if_neg a5]
            by_cases a6 : tx p = 109
            · rw [if_pos a6]
              unfold tM
              by_cases a7 : rd 4 = 0
              · rw [if_pos a7]
                intro h
                have := mn_gt _ _ _ h
                omega
              · rw [if_neg a7]
                intro h
                exact absurd (show (3 : Nat) = 0 from h) (by omega)
            · rw [if_neg a6]
              intro h
              exact absurd (show (1 : Nat) = 0 from h) (by omega)
end PP
section PW
variable {L : Nat} {tx : Nat → Nat} {rd : Nat → Nat}
theorem DW_N {v : Nat} (h1 : 1 ≤ v) (h8 : v ≤ 8) : DW (cwN v) := by
  have e0 : cwN v 0 = v := rfl
  refine ⟨⟨h8, Nat.zero_le _, Nat.zero_le _, Nat.zero_le _, fun x hx => ?_, fun i hi => ?_, fun g hg => absurd hg (Nat.not_lt_zero _), fun e he => absurd he (Nat.not_lt_zero _), fun i hi => absurd hi (Nat.not_lt_zero _)⟩, Nat.zero_le _, fun z => absurd (e0.symm.trans z) (by omega)⟩
  · rw [e0] at hx
    unfold cwN
    rw [if_neg (by omega), if_neg (by omega)]
    omega
  · rw [e0] at hi ⊢
    unfold cwN
    rw [if_neg (by omega), if_pos (by omega)]
    omega
theorem rdX_l {s a b c i : Nat} (h : i < 5 ∧ ¬ i = 1 ∨ 37 ≤ i) (h8 : rd 1 < 8) : rdX rd s a b c i = rd i := by
  unfold rdX
  rw [upN_n (by omega), upN_n (by omega), upN_n (by omega), upN_n (by omega), upN_n (by omega)]
theorem DW_X {s a b c : Nat} (h : DW rd) (hx : rd 1 < rd 0) (hs : s ≤ 5) (ha : a ≤ rd 0 - 1) (hb : b ≤ rd 0 - 1) (hc : c ≤ rd 0 - 1) : DW (rdX rd s a b c) := by
  obtain ⟨⟨w0, w2, w3, w4, w5, w6, w7, w8, w9⟩, h1, h00⟩ := h
  have r5 : ∀ x, x < 8 → rdX rd s a b c (5 + x) = if x = rd 1 then s else rd (5 + x) := fun x hx => by
    unfold rdX
    rw [upN_n (by omega), upN_n (by omega), upN_n (by omega)]
    by_cases z : x = rd 1
    · rw [if_pos z, z, upN_y]
    · rw [if_neg z, upN_n (by omega), upN_n (by omega)]
  have r13 : ∀ i, rdX rd s a b c (13 + i) = if i = rd 1 * 3 + 2 then c else if i = rd 1 * 3 + 1 then b else if i = rd 1 * 3 then a else rd (13 + i) := fun i => by
    unfold rdX
    by_cases z2 : i = rd 1 * 3 + 2
    · rw [if_pos z2, show 13 + i = 13 + 3 * rd 1 + 2 by omega, upN_y]
    · rw [if_neg z2, upN_n (by omega)]
      by_cases z1 : i = rd 1 * 3 + 1
      · rw [if_pos z1, show 13 + i = 13 + 3 * rd 1 + 1 by omega, upN_y]
      · rw [if_neg z1, upN_n (by omega)]
        by_cases z0 : i = rd 1 * 3
        · rw [if_pos z0, show 13 + i = 13 + 3 * rd 1 by omega, upN_y]
        · rw [if_neg z0, upN_n (by omega), upN_n (by omega), upN_n (by omega)]
  have rl : ∀ i, (i < 5 ∧ ¬ i = 1 ∨ 37 ≤ i) → rdX rd s a b c i = rd i := fun i hi => rdX_l hi (by omega)
  have r1 : rdX rd s a b c 1 = rd 1 + 1 := by
    unfold rdX
    rw [upN_n (by omega), upN_n (by omega), upN_n (by omega), upN_n (by omega), upN_y]
  refine ⟨⟨?_, ?_, ?_, ?_, fun x hx => ?_, fun i hi => ?_, fun g hg => ?_, fun e he => ?_, fun i hi => ?_⟩, ?_, fun z => ?_⟩
  · rw [rl 0 (by omega)]; exact w0
  · rw [rl 2 (by omega)]; exact w2
  · rw [rl 3 (by omega)]; exact w3
  · rw [rl 4 (by omega)]; exact w4
  · rw [rl 0 (by omega)] at hx
    rw [r5 x (by omega)]
    split
    · omega
    · exact w5 x hx
  · rw [rl 0 (by omega)] at hi ⊢
    rw [r13]
    have := w6 i hi
    split
    · omega
    · split
      · omega
      · split <;> omega
  · rw [rl 2 (by omega)] at hg
    rw [rl 0 (by omega), rl _ (by omega), rl _ (by omega), rl _ (by omega)]
    exact w7 g hg
  · rw [rl 3 (by omega)] at he
    rw [rl 0 (by omega), rl _ (by omega), rl _ (by omega)]
    exact w8 e he
  · rw [rl 4 (by omega)] at hi
    rw [rl _ (by omega)]
    exact w9 i hi
  · rw [rl 0 (by omega), r1]; omega
  · rw [rl 0 (by omega)] at z; omega
theorem DW_G {x p k : Nat} (h : DW rd) (hg6 : rd 2 < 6) (h0 : 0 < rd 0) (hx : x ≤ rd 0 - 1) (hp : p ≤ 99) (hk : k ≤ 2 ^ rd 0 - 1) : DW (rdG rd x p k) := by
  obtain ⟨⟨w0, w2, w3, w4, w5, w6, w7, w8, w9⟩, h1, h00⟩ := h
  have hpw1 : 0 < 2 ^ rd 0 := Nat.two_pow_pos _
  have rl : ∀ i, ¬ i = 2 → ¬ i = 37 + rd 2 → ¬ i = 43 + rd 2 → ¬ i = 49 + rd 2 → rdG rd x p k i = rd i := fun i a1 a2 a3 a4 => by
    unfold rdG
    rw [upN_n (by omega), upN_n (by omega), upN_n (by omega), upN_n (by omega)]
  have e2 : rdG rd x p k 2 = rd 2 + 1 := by
    unfold rdG
    rw [upN_n (by omega), upN_n (by omega), upN_n (by omega), upN_y]
  have e0 := rl 0 (by omega) (by omega) (by omega) (by omega)
  have e1 := rl 1 (by omega) (by omega) (by omega) (by omega)
  have e3 := rl 3 (by omega) (by omega) (by omega) (by omega)
  have e4 := rl 4 (by omega) (by omega) (by omega) (by omega)
  refine ⟨⟨by rw [e0]; exact w0, by rw [e2]; omega, by rw [e3]; exact w3, by rw [e4]; exact w4, fun x hx => ?_, fun i hi => ?_, fun g hg => ?_, fun e he => ?_, fun i hi => ?_⟩, by rw [e0, e1]; exact h1, fun z => ?_⟩
  · rw [e0] at hx
    rw [rl _ (by omega) (by omega) (by omega) (by omega)]
    exact w5 x hx
  · rw [e0] at hi ⊢
    rw [rl _ (by omega) (by omega) (by omega) (by omega)]
    exact w6 i hi
  · rw [e2] at hg
    rw [e0]
    by_cases z : g = rd 2
    · unfold rdG
      rw [z, upN_n (by omega), upN_n (by omega), upN_y, upN_n (by omega), upN_y, upN_y]
      omega
    · rw [rl _ (by omega) (by omega) (by omega) (by omega), rl _ (by omega) (by omega) (by omega) (by omega), rl _ (by omega) (by omega) (by omega) (by omega)]
      exact w7 g (by omega)
  · rw [e3] at he
    rw [e0, rl _ (by omega) (by omega) (by omega) (by omega), rl _ (by omega) (by omega) (by omega) (by omega)]
    exact w8 e he
  · rw [e4] at hi
    rw [rl _ (by omega) (by omega) (by omega) (by omega)]
    exact w9 i hi
  · rw [e0] at z; omega
theorem DW_E {a b : Nat} (h : DW rd) (hg6 : rd 3 < 6) (h0 : 0 < rd 0) (ha : a ≤ rd 0 - 1) (hb : b ≤ rd 0 - 1) : DW (rdE rd a b) := by
  obtain ⟨⟨w0, w2, w3, w4, w5, w6, w7, w8, w9⟩, h1, h00⟩ := h
  have rl : ∀ i, ¬ i = 3 → ¬ i = 55 + rd 3 → ¬ i = 61 + rd 3 → rdE rd a b i = rd i := fun i a1 a2 a3 => by
    unfold rdE
    rw [upN_n (by omega), upN_n (by omega), upN_n (by omega)]
  have e3 : rdE rd a b 3 = rd 3 + 1 := by
    unfold rdE
    rw [upN_n (by omega), upN_n (by omega), upN_y]
  have e0 := rl 0 (by omega) (by omega) (by omega)
  have e1 := rl 1 (by omega) (by omega) (by omega)
  have e2 := rl 2 (by omega) (by omega) (by omega)
  have e4 := rl 4 (by omega) (by omega) (by omega)
  refine ⟨⟨by rw [e0]; exact w0, by rw [e2]; exact w2, by rw [e3]; omega, by rw [e4]; exact w4, fun x hx => ?_, fun i hi => ?_, fun g hg => ?_, fun e he => ?_, fun i hi => ?_⟩, by rw [e0, e1]; exact h1, fun z => ?_⟩
  · rw [e0] at hx
    rw [rl _ (by omega) (by omega) (by omega)]
    exact w5 x hx
  · rw [e0] at hi ⊢
    rw [rl _ (by omega) (by omega) (by omega)]
    exact w6 i hi
  · rw [e2] at hg
    rw [e0, rl _ (by omega) (by omega) (by omega), rl _ (by omega) (by omega) (by omega), rl _ (by omega) (by omega) (by omega)]
    exact w7 g hg
  · rw [e3] at he
    rw [e0]
    by_cases z : e = rd 3
    · unfold rdE
      rw [z, upN_n (by omega), upN_y, upN_y]
      omega
    · rw [rl _ (by omega) (by omega) (by omega), rl _ (by omega) (by omega) (by omega)]
      exact w8 e (by omega)
  · rw [e4] at hi
    rw [rl _ (by omega) (by omega) (by omega)]
    exact w9 i hi
  · rw [e0] at z; omega
theorem DW_M {v : Nat} (h : DW rd) (hg : rd 4 < 12) (h0 : 0 < rd 0) (hv : v ≤ 9) : DW (rdM rd v) := by
  obtain ⟨⟨w0, w2, w3, w4, w5, w6, w7, w8, w9⟩, h1, h00⟩ := h
  have rl : ∀ i, ¬ i = 4 → ¬ i = 67 + rd 4 → rdM rd v i = rd i := fun i a1 a2 => rdM_o ⟨a1, a2⟩
  have e4 := rdM_4 (rd := rd) (v := v)
  have e0 := rl 0 (by omega) (by omega)
  have e1 := rl 1 (by omega) (by omega)
  have e2 := rl 2 (by omega) (by omega)
  have e3 := rl 3 (by omega) (by omega)
  refine ⟨⟨by rw [e0]; exact w0, by rw [e2]; exact w2, by rw [e3]; exact w3, by rw [e4]; omega, fun x hx => ?_, fun i hi => ?_, fun g hg => ?_, fun e he => ?_, fun i hi => ?_⟩, by rw [e0, e1]; exact h1, fun z => ?_⟩
  · rw [e0] at hx
    rw [rl _ (by omega) (by omega)]
    exact w5 x hx
  · rw [e0] at hi ⊢
    rw [rl _ (by omega) (by omega)]
    exact w6 i hi
  · rw [e2] at hg
    rw [e0, rl _ (by omega) (by omega), rl _ (by omega) (by omega), rl _ (by omega) (by omega)]
    exact w7 g hg
  · rw [e3] at he
    rw [e0, rl _ (by omega) (by omega), rl _ (by omega) (by omega)]
    exact w8 e he
  · rw [e4] at hi
    by_cases z : i = rd 4
    · unfold rdM
      rw [z, upN_n (by omega), upN_y]
      exact hv
    · rw [rl _ (by omega) (by omega)]
      exact w9 i (by omega)
  · rw [e0] at z; omega
theorem DW_mn : ∀ (f p : Nat) (rd : Nat → Nat), f + rd 4 ≤ 12 → 0 < rd 0 → DW rd → DW (mnT L tx f p rd).2 := by
  intro f
  induction f with
  | zero => intro p rd _ _ h; exact h
  | succ f ih =>
    intro p rd hf h0 h
    rw [mnS]
    by_cases hk : kN L tx 0 9 p = 0
    · rw [if_pos hk]
      have hm := DW_M (v := nuV L tx p) h (by omega) h0 (kN_ok hk).2.2.2
      by_cases y : ltI L tx (skB L tx (nuE L tx p)) = nI 44 ∧ ¬ f = 0
      · rw [if_pos y]
        exact ih _ _ (by rw [rdM_4]; omega) (by rw [rdM_o (by omega)]; exact h0) hm
      · rw [if_neg y]
        exact hm
    · rw [if_neg hk]
      exact h
theorem clT_W {p : Nat} (hw : DW rd) (h : (clT L tx rd p).1.2.1 = 0) : DW (clT L tx rd p).2 := by
  revert h
  unfold clT
  by_cases a1 : tx p = 110
  · rw [if_pos a1]
    intro h
    have y1 := sg_z (show (psSg L tx 59 (psNu L tx 1 8 (psWo (decide (rd 0 = 0)) (p, 0, 0)))).2.1 = 0 from h)
    have y2 := kN_ok (nu_z y1.1).2
    exact DW_N y2.2.2.1 y2.2.2.2
  · rw [if_neg a1]
    by_cases a2 : rd 0 = 0
    · rw [if_pos a2]
      intro h
      exact hw
    · rw [if_neg a2]
      by_cases a3 : tx p = 99
      · rw [if_pos a3]
        intro h
        have y1 := sg_z (show (psSg L tx 59 (psNu L tx 0 (rd 0 - 1) (psNu L tx 0 (rd 0 - 1) (psNu L tx 0 (rd 0 - 1) (psNu L tx 0 5 (psWo (decide (rd 1 < rd 0)) (p, 0, 0))))))).2.1 = 0 from h)
        have y2 := nu_z y1.1
        have y3 := nu_z y2.1
        have y4 := nu_z y3.1
        have y5 := nu_z y4.1
        have y6 := wo_z y5.1
        exact DW_X hw (of_decide_eq_true y6.2) (kN_ok y5.2).2.2.2 (kN_ok y4.2).2.2.2 (kN_ok y3.2).2.2.2 (kN_ok y2.2).2.2.2
      · rw [if_neg a3]
        by_cases a4 : tx p = 103
        · rw [if_pos a4]
          intro h
          have y1 := sg_z (show (psSg L tx 59 (psNu L tx 1 (2 ^ rd 0 - 1) (psNu L tx 0 99 (psNu L tx 0 (rd 0 - 1) (psWo (decide (rd 2 < 6)) (p, 0, 0)))))).2.1 = 0 from h)
          have y2 := nu_z y1.1
          have y3 := nu_z y2.1
          have y4 := nu_z y3.1
          have y6 := wo_z y4.1
          exact DW_G hw (of_decide_eq_true y6.2) (by omega) (kN_ok y4.2).2.2.2 (kN_ok y3.2).2.2.2 (kN_ok y2.2).2.2.2
        · rw [if_neg a4]
          by_cases a5 : tx p = 101
          · rw [if_pos a5]
            intro h
            have y1 := sg_z (show (psSg L tx 59 (psNu L tx 0 (rd 0 - 1) (psNu L tx 0 (rd 0 - 1) (psWo (decide (rd 3 < 6)) (p, 0, 0))))).2.1 = 0 from h)
            have y2 := nu_z y1.1
            have y3 := nu_z y2.1
            have y6 := wo_z y3.1
            exact DW_E hw (of_decide_eq_true y6.2) (by omega) (kN_ok y3.2).2.2.2 (kN_ok y2.2).2.2.2
          · rw [if_neg a5]
            by_cases a6 : tx p = 109
            · rw [if_pos a6]
              intro h
              unfold tM
              by_cases a7 : rd 4 = 0
              · rw [if_pos a7]
                exact DW_mn _ _ _ (by omega) (by omega) hw
              · rw [if_neg a7]
                exact hw
            · rw [if_neg a6]
              intro h
              exact hw
end PW
