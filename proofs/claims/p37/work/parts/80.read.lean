/-! the text: the class reads it all -/
section CR
variable {L : Nat} {tx : Nat → Nat} {ρ : dm_G} {D : Nat} {rd : Nat → Nat} {Q : Option Value → dm_G → Prop}
theorem c_fl {p : Nat} : Cq 65 [(.ref (2 : Nat)), .int (nI 1), .int (nI p)] (rS ρ (p, 0, 0)) Q = Q none (rS ρ (p, 1, p)) := c_fail (p := p) (w := 0) (k := 1) (b0 := p) (b := 0) (by omega) (by omega)
theorem CPo_1 {p : Nat} (hC : CR ρ D) (hp : p ≤ 300) : CPo D ρ ((p, 1, p), rd) (rS ρ (p, 1, p)) := ⟨ρ, p, rfl, hp, fun _ _ _ _ => rfl, hC, fun z => absurd (show (1 : Nat) = 0 from z) (by omega)⟩
theorem c_clause {p : Nat} (hT : tXt L tx ρ) (hC : DC ρ D rd) (hD : D = 4 ∨ D = 14) (h5 : ρ 2 5 = .ref D) (hp : p ≤ 240) (hw : DW rd) (hpL : p < L) : ∃ τ, Er 53 [(.ref (2 : Nat))] (rS ρ (p, 0, 0)) none τ ∧ CPo D ρ (clT L tx rd p) τ := by
  obtain ⟨⟨w0, w2, w3, w4, w5, w6, w7, w8, w9⟩, hw1, hw00⟩ := id hw
  have e5 : ∀ s, rS ρ s 2 5 = .ref D := fun s => (rS_out (by omega)).trans h5
  have e0 : ∀ s, rS ρ s D 0 = .int (nI (rd 0)) := fun s => (rS_out (by omega)).trans hC.1.2.2.1.1
  have kP := hC.1.1.1
  have b0 : bS 0 (p, 0, 0) := ⟨hp, Nat.zero_le _⟩
  have ht := hT.2.1 p hpL
  have el : ltI L tx p = nI (tx p) := if_pos hpL
  have e : nI (rd 0) = nI 0 ↔ rd 0 = 0 := nI_eq (by omega) (by omega)
  have en : nI (tx p) = nI 110 ↔ tx p = 110 := nI_eq (by omega) (by omega)
  have run : ∀ Q, (tx p = 110 ∨ ¬ rd 0 = 0) → Wq none 53 0 [some (.ref (2 : Nat)), none] [] (rS ρ (p, 0, 0)) Q = Wq none 53 32 [some (.ref (2 : Nat)), some (.int (nI (tx p)))] [.int (nI (tx p))] (rS ρ (p, 0, 0)) Q := by
    intro Q hz
    by_cases z : rd 0 = 0
    · have a : tx p = 110 := hz.resolve_right (fun w => w z)
      simp only [w53_0, w53_1, w53_4, w53_5, w53_6, w53_9, w53_12, w53_15, w53_16, w53_18, w53_21, w53_22, w53_23, w53_24, w53_27, w53_30, w53_31, w53_96, w53_97, w53_100, w53_103, w53_104, w53_107, w53_110, w53_111, w53_114, w53_117, w53_118, w53_121, w53_124, w53_125, w53_128, w53_131, w53_132, w53_133, w53_134, w53_137, w53_140, ks_2, kP, e5, e0, e, z, c_ltS hT b0 (by omega), el, en, a, ↓reduceIte, Option.toList_some, Option.toList_none, List.cons_append, List.nil_append]
    · simp only [w53_0, w53_1, w53_4, w53_5, w53_6, w53_9, w53_12, w53_15, w53_16, w53_18, w53_21, w53_22, w53_23, w53_24, w53_27, w53_30, w53_31, w53_96, w53_97, w53_100, w53_103, w53_104, w53_107, w53_110, w53_111, w53_114, w53_117, w53_118, w53_121, w53_124, w53_125, w53_128, w53_131, w53_132, w53_133, w53_134, w53_137, w53_140, ks_2, kP, e5, e0, e, z, c_ltS hT b0 (by omega), el, ↓reduceIte, Option.toList_some, Option.toList_none, List.cons_append, List.nil_append]
  have dfl : (tx p = 110 ∨ ¬ rd 0 = 0) → (∀ Q, Wq none 53 32 [some (.ref (2 : Nat)), some (.int (nI (tx p)))] [.int (nI (tx p))] (rS ρ (p, 0, 0)) Q = Wq none 53 131 [some (.ref (2 : Nat)), some (.int (nI (tx p)))] [] (rS ρ (p, 0, 0)) Q) → ∃ τ, Er 53 [(.ref (2 : Nat))] (rS ρ (p, 0, 0)) none τ ∧ CPo D ρ ((p, 1, p), rd) τ := by
    intro hz h131
    refine ⟨rS ρ (p, 1, p), Er_of ?_, CPo_1 hC.1.2.1 (by omega)⟩
    show Wq none 53 0 [some (.ref (2 : Nat)), none] [] (rS ρ (p, 0, 0)) _
    rw [run _ hz, h131]
    simp only [w53_0, w53_1, w53_4, w53_5, w53_6, w53_9, w53_12, w53_15, w53_16, w53_18, w53_21, w53_22, w53_23, w53_24, w53_27, w53_30, w53_31, w53_96, w53_97, w53_100, w53_103, w53_104, w53_107, w53_110, w53_111, w53_114, w53_117, w53_118, w53_121, w53_124, w53_125, w53_128, w53_131, w53_132, w53_133, w53_134, w53_137, w53_140, ks_2, rS_2, c_fl, ↓reduceIte, Option.toList_some, Option.toList_none, List.cons_append, List.nil_append, and_self]
  unfold clT
  by_cases a1 : tx p = 110
  · rw [if_pos a1]
    obtain ⟨τ, hE, hP⟩ := c_readN hT hC hD h5 hp w0
    refine ⟨τ, Er_of ?_, hP⟩
    show Wq none 53 0 [some (.ref (2 : Nat)), none] [] (rS ρ (p, 0, 0)) _
    rw [run _ (Or.inl a1), a1]
    simp only [w53_0, w53_1, w53_4, w53_5, w53_6, w53_9, w53_12, w53_15, w53_16, w53_18, w53_21, w53_22, w53_23, w53_24, w53_27, w53_30, w53_31, w53_32_99, w53_32_100, w53_32_101, w53_32_102, w53_32_103, w53_32_104, w53_32_105, w53_32_106, w53_32_107, w53_32_108, w53_32_109, w53_32_110, w53_32_d, w53_96, w53_97, w53_100, w53_103, w53_104, w53_107, w53_110, w53_111, w53_114, w53_117, w53_118, w53_121, w53_124, w53_125, w53_128, w53_131, w53_132, w53_133, w53_134, w53_137, w53_140, ks_2, fun Q => Cq_of (Q := Q) hE, ↓reduceIte, Option.toList_some, Option.toList_none, List.cons_append, List.nil_append, and_self]
  · rw [if_neg a1]
    by_cases a2 : rd 0 = 0
    · rw [if_pos a2]
      refine ⟨rS ρ (p, 1, p), Er_of ?_, CPo_1 hC.1.2.1 (by omega)⟩
      show Wq none 53 0 [some (.ref (2 : Nat)), none] [] (rS ρ (p, 0, 0)) _
      simp only [w53_0, w53_1, w53_4, w53_5, w53_6, w53_9, w53_12, w53_15, w53_16, w53_18, w53_21, w53_22, w53_23, w53_24, w53_27, w53_30, w53_31, w53_96, w53_97, w53_100, w53_103, w53_104, w53_107, w53_110, w53_111, w53_114, w53_117, w53_118, w53_121, w53_124, w53_125, w53_128, w53_131, w53_132, w53_133, w53_134, w53_137, w53_140, ks_2, kP, e5, e0, e, a2, c_ltS hT b0 (by omega), el, en, a1, rS_2, c_fl, ↓reduceIte, Option.toList_some, Option.toList_none, List.cons_append, List.nil_append, and_self]
    · rw [if_neg a2]
      have hp0 : 0 < rd 0 := by omega
      by_cases a3 : tx p = 99
      · rw [if_pos a3]
        obtain ⟨τ, hE, hP⟩ := c_readX hT hC hD h5 hp w0 hp0 hw1
        refine ⟨τ, Er_of ?_, hP⟩
        show Wq none 53 0 [some (.ref (2 : Nat)), none] [] (rS ρ (p, 0, 0)) _
        rw [run _ (Or.inr a2), a3]
        simp only [w53_0, w53_1, w53_4, w53_5, w53_6, w53_9, w53_12, w53_15, w53_16, w53_18, w53_21, w53_22, w53_23, w53_24, w53_27, w53_30, w53_31, w53_32_99, w53_32_100, w53_32_101, w53_32_102, w53_32_103, w53_32_104, w53_32_105, w53_32_106, w53_32_107, w53_32_108, w53_32_109, w53_32_110, w53_32_d, w53_96, w53_97, w53_100, w53_103, w53_104, w53_107, w53_110, w53_111, w53_114, w53_117, w53_118, w53_121, w53_124, w53_125, w53_128, w53_131, w53_132, w53_133, w53_134, w53_137, w53_140, ks_2, fun Q => Cq_of (Q := Q) hE, ↓reduceIte, Option.toList_some, Option.toList_none, List.cons_append, List.nil_append, and_self]
      · rw [if_neg a3]
        by_cases a4 : tx p = 103
        · rw [if_pos a4]
          obtain ⟨τ, hE, hP⟩ := c_readG hT hC hD h5 hp w0 hp0 w2
          refine ⟨τ, Er_of ?_, hP⟩
          show Wq none 53 0 [some (.ref (2 : Nat)), none] [] (rS ρ (p, 0, 0)) _
          rw [run _ (Or.inr a2), a4]
          simp only [w53_0, w53_1, w53_4, w53_5, w53_6, w53_9, w53_12, w53_15, w53_16, w53_18, w53_21, w53_22, w53_23, w53_24, w53_27, w53_30, w53_31, w53_32_99, w53_32_100, w53_32_101, w53_32_102, w53_32_103, w53_32_104, w53_32_105, w53_32_106, w53_32_107, w53_32_108, w53_32_109, w53_32_110, w53_32_d, w53_96, w53_97, w53_100, w53_103, w53_104, w53_107, w53_110, w53_111, w53_114, w53_117, w53_118, w53_121, w53_124, w53_125, w53_128, w53_131, w53_132, w53_133, w53_134, w53_137, w53_140, ks_2, fun Q => Cq_of (Q := Q) hE, ↓reduceIte, Option.toList_some, Option.toList_none, List.cons_append, List.nil_append, and_self]
        · rw [if_neg a4]
          by_cases a5 : tx p = 101
          · rw [if_pos a5]
            obtain ⟨τ, hE, hP⟩ := c_readE hT hC hD h5 hp w0 hp0 w2 w3
            refine ⟨τ, Er_of ?_, hP⟩
            show Wq none 53 0 [some (.ref (2 : Nat)), none] [] (rS ρ (p, 0, 0)) _
            rw [run _ (Or.inr a2), a5]
            simp only [w53_0, w53_1, w53_4, w53_5, w53_6, w53_9, w53_12, w53_15, w53_16, w53_18, w53_21, w53_22, w53_23, w53_24, w53_27, w53_30, w53_31, w53_32_99, w53_32_100, w53_32_101, w53_32_102, w53_32_103, w53_32_104, w53_32_105, w53_32_106, w53_32_107, w53_32_108, w53_32_109, w53_32_110, w53_32_d, w53_96, w53_97, w53_100, w53_103, w53_104, w53_107, w53_110, w53_111, w53_114, w53_117, w53_118, w53_121, w53_124, w53_125, w53_128, w53_131, w53_132, w53_133, w53_134, w53_137, w53_140, ks_2, fun Q => Cq_of (Q := Q) hE, ↓reduceIte, Option.toList_some, Option.toList_none, List.cons_append, List.nil_append, and_self]
          · rw [if_neg a5]
            by_cases a6 : tx p = 109
            · rw [if_pos a6]
              obtain ⟨τ, hE, hP⟩ := c_readM hT hC hD h5 hp w0 w2 w3 w4
              refine ⟨τ, Er_of ?_, hP⟩
              show Wq none 53 0 [some (.ref (2 : Nat)), none] [] (rS ρ (p, 0, 0)) _
              rw [run _ (Or.inr a2), a6]
              simp only [w53_0, w53_1, w53_4, w53_5, w53_6, w53_9, w53_12, w53_15, w53_16, w53_18, w53_21, w53_22, w53_23, w53_24, w53_27, w53_30, w53_31, w53_32_99, w53_32_100, w53_32_101, w53_32_102, w53_32_103, w53_32_104, w53_32_105, w53_32_106, w53_32_107, w53_32_108, w53_32_109, w53_32_110, w53_32_d, w53_96, w53_97, w53_100, w53_103, w53_104, w53_107, w53_110, w53_111, w53_114, w53_117, w53_118, w53_121, w53_124, w53_125, w53_128, w53_131, w53_132, w53_133, w53_134, w53_137, w53_140, ks_2, fun Q => Cq_of (Q := Q) hE, ↓reduceIte, Option.toList_some, Option.toList_none, List.cons_append, List.nil_append, and_self]
            · rw [if_neg a6]
              refine dfl (Or.inr a2) (fun Q => ?_)
              by_cases hr : tx p < 99 ∨ 110 < tx p
              · have hti : (nI (tx p)).toInt < 99 ∨ 110 < (nI (tx p)).toInt := by
                  rw [nI_toInt (by omega)]
                  omega
                exact w53_32_d hti
              · rcases (by omega : tx p = 100 ∨ tx p = 102 ∨ tx p = 104 ∨ tx p = 105 ∨ tx p = 106 ∨ tx p = 107 ∨ tx p = 108) with y | y | y | y | y | y | y
                · rw [y]; exact w53_32_100
                · rw [y]; exact w53_32_102
                · rw [y]; exact w53_32_104
                · rw [y]; exact w53_32_105
                · rw [y]; exact w53_32_106
                · rw [y]; exact w53_32_107
                · rw [y]; exact w53_32_108
theorem mn_3 (hL : L ≤ 240) : ∀ (f p : Nat) (rd : Nat → Nat), (mnT L tx f p rd).1.2.1 ≤ 3 := by
  intro f
  induction f with
  | zero => intro p rd; show (1 : Nat) ≤ 3; omega
  | succ f ih =>
    intro p rd
    rw [mnS]
    split
    · split
      · exact ih _ _
      · exact (bS_sg (k := L + p + nuE L tx p + skB L tx (nuE L tx p)) (s := (skB L tx (nuE L tx p), 0, 0)) hL ⟨show skB L tx (nuE L tx p) ≤ 240 + (L + p + nuE L tx p + skB L tx (nuE L tx p)) by omega, Nat.zero_le _⟩).2
    · show kN L tx 0 9 p ≤ 3
      have := kN_3 (L := L) (tx := tx) (l := 0) (m := 9) (p := p)
      omega
theorem clT_3 {p : Nat} (hL : L ≤ 240) : (clT L tx rd p).1.2.1 ≤ 3 := by
  have b0 : bS p (p, 0, 0) := ⟨show p ≤ 240 + p by omega, Nat.zero_le _⟩
  unfold clT
  split
  · exact (bS_sg hL (bS_nu hL (bS_wo b0))).2
  · split
    · show (1 : Nat) ≤ 3; omega
    · split
      · exact (bS_sg hL (bS_nu hL (bS_nu hL (bS_nu hL (bS_nu hL (bS_wo b0)))))).2
      · split
        · exact (bS_sg hL (bS_nu hL (bS_nu hL (bS_nu hL (bS_wo b0))))).2
        · split
          · exact (bS_sg hL (bS_nu hL (bS_nu hL (bS_wo b0)))).2
          · split
            · unfold tM
              split
              · exact mn_3 hL _ _ _
              · show (3 : Nat) ≤ 3; omega
            · show (1 : Nat) ≤ 3; omega
theorem l_read (hD : D = 4 ∨ D = 14) : ∀ (f i p : Nat) (ρ : dm_G) (rd : Nat → Nat), i + f = 240 → i ≤ p → p ≤ 240 → tXt L tx ρ → DC ρ D rd → DW rd → ρ 2 5 = .ref D →
    ∃ τ, (∀ Q v1 v2, Wq none 51 39 [some (.ref (2 : Nat)), v1, v2, some (.int (nI i))] [] (rS ρ (p, 0, 0)) Q = Q (some (.int (nI (prT L tx f p rd).1.2.1))) τ) ∧ CPo D ρ (prT L tx f p rd) τ := by
  intro f
  induction f with
  | zero =>
    intro i p ρ rd hi hip hp hT hC hw h5
    obtain rfl : i = 240 := by omega
    refine ⟨rS ρ (p, 0, 0), fun Q v1 v2 => ?_, ρ, p, rfl, by omega, fun _ _ _ _ => rfl, hC.1.2.1, fun _ => ⟨rfl, hC⟩⟩
    rw [w51_39]
    simp only [w51_0, w51_1, w51_2, w51_5, w51_6, w51_7, w51_10, w51_11, w51_12, w51_15, w51_16, w51_17, w51_20, w51_21, w51_22, w51_25, w51_26, w51_29, w51_30, w51_33, w51_34, w51_37, w51_38, w51_40, w51_43, w51_46, w51_47, w51_50, w51_51, w51_54, w51_57, w51_58, w51_61, w51_64, w51_65, w51_68, w51_69, w51_72, w51_75, w51_78, w51_79, w51_82, ks_2, (by decide : nI 240 ≤ nI 240), rS_3, ↓reduceIte, Option.toList_some, Option.toList_none, List.cons_append, List.nil_append]
    rfl
  | succ f ih =>
    intro i p ρ rd hi hip hp hT hC hw h5
    have hL := hT.1
    have h1 : ¬ nI 240 ≤ nI i := nI_ge (by omega) (by omega)
    have hl : ∀ s, rS ρ s 2 1 = .int (nI L) := fun s => (rS_out (by omega)).trans hT.2.2.2.1
    rw [prS]
    by_cases z : p < L
    · rw [if_pos z]
      have h2 : ¬ nI L ≤ nI p := nI_ge z (by omega)
      obtain ⟨τ1, hE, ρ1, P, hτ, hP, hfr, hCR, hok⟩ := c_clause hT hC hD h5 hp hw z
      have hT1 : tXt L tx ρ1 := tXt_of (fun a b y => hfr a b (by omega) (by omega)) hT
      have hb2 := skB_le (L := L) (tx := tx) P
      have h3 := clT_3 (L := L) (tx := tx) (rd := rd) (p := p) hL
      have b1 : bS 60 (P, (clT L tx rd p).1.2) := ⟨show P ≤ 240 + 60 by omega, h3⟩
      subst hτ
      have run : ∀ Q v1 v2, Wq none 51 39 [some (.ref (2 : Nat)), v1, v2, some (.int (nI i))] [] (rS ρ (p, 0, 0)) Q = Wq none 51 39 [some (.ref (2 : Nat)), v1, v2, some (.int (nI (i + 1)))] [] (rS ρ1 (skB L tx P, (clT L tx rd p).1.2)) Q := by
        intro Q v1 v2
        rw [w51_39]
        simp only [w51_0, w51_1, w51_2, w51_5, w51_6, w51_7, w51_10, w51_11, w51_12, w51_15, w51_16, w51_17, w51_20, w51_21, w51_22, w51_25, w51_26, w51_29, w51_30, w51_33, w51_34, w51_37, w51_38, w51_40, w51_43, w51_46, w51_47, w51_50, w51_51, w51_54, w51_57, w51_58, w51_61, w51_64, w51_65, w51_68, w51_69, w51_72, w51_75, w51_78, w51_79, w51_82, ks_2, h1, rS_2, hl, h2, rS_3, fun Q => Cq_of (Q := Q) hE, c_skS hT1 b1 (by omega), nI_add, ↓reduceIte, Option.toList_some, Option.toList_none, List.cons_append, List.nil_append]
      by_cases y : (clT L tx rd p).1.2.1 = 0
      · rw [if_pos y]
        obtain ⟨hPe, hDC⟩ := hok y
        have hg := clT_gt y
        have es : (clT L tx rd p).1.2 = (0, (clT L tx rd p).1.2.2) := Prod.ext y rfl
        rw [es, rS_b, hPe] at run
        rw [hPe] at hb2
        obtain ⟨τ, hr, hp2⟩ := ih (i + 1) (skB L tx (clT L tx rd p).1.1) ρ1 (clT L tx rd p).2 (by omega) (by omega) (by omega) hT1 hDC (clT_W hw y) ((hfr 2 5 (by omega) (by omega)).trans h5)
        exact ⟨τ, fun Q v1 v2 => (run Q v1 v2).trans (hr Q v1 v2), CPo_e hfr hp2⟩
      · rw [if_neg y]
        have ez : nI (clT L tx rd p).1.2.1 = nI 0 ↔ (clT L tx rd p).1.2.1 = 0 := nI_eq (by omega) (by omega)
        refine ⟨rS ρ1 (skB L tx P, (clT L tx rd p).1.2), fun Q v1 v2 => (run Q v1 v2).trans ?_, ρ1, skB L tx P, rfl, by omega, hfr, hCR, fun w => absurd w y⟩
        have hl1 : ∀ s, rS ρ1 s 2 1 = .int (nI L) := fun s => (rS_out (by omega)).trans hT1.2.2.2.1
        by_cases g1 : 240 ≤ i + 1
        · have g1' : nI 240 ≤ nI (i + 1) := nI_le g1 (by omega)
          rw [w51_39]
          simp only [w51_0, w51_1, w51_2, w51_5, w51_6, w51_7, w51_10, w51_11, w51_12, w51_15, w51_16, w51_17, w51_20, w51_21, w51_22, w51_25, w51_26, w51_29, w51_30, w51_33, w51_34, w51_37, w51_38, w51_40, w51_43, w51_46, w51_47, w51_50, w51_51, w51_54, w51_57, w51_58, w51_61, w51_64, w51_65, w51_68, w51_69, w51_72, w51_75, w51_78, w51_79, w51_82, ks_2, g1', rS_3, ↓reduceIte, Option.toList_some, Option.toList_none, List.cons_append, List.nil_append]
        · have g1' : ¬ nI 240 ≤ nI (i + 1) := nI_ge (by omega) (by omega)
          by_cases g2 : L ≤ skB L tx P
          · have g2' : nI L ≤ nI (skB L tx P) := nI_le g2 (by omega)
            rw [w51_39]
            simp only [w51_0, w51_1, w51_2, w51_5, w51_6, w51_7, w51_10, w51_11, w51_12, w51_15, w51_16, w51_17, w51_20, w51_21, w51_22, w51_25, w51_26, w51_29, w51_30, w51_33, w51_34, w51_37, w51_38, w51_40, w51_43, w51_46, w51_47, w51_50, w51_51, w51_54, w51_57, w51_58, w51_61, w51_64, w51_65, w51_68, w51_69, w51_72, w51_75, w51_78, w51_79, w51_82, ks_2, g1', rS_2, hl1, g2', rS_3, ↓reduceIte, Option.toList_some, Option.toList_none, List.cons_append, List.nil_append]
          · have g2' : ¬ nI L ≤ nI (skB L tx P) := nI_ge (by omega) (by omega)
            rw [w51_39]
            simp only [w51_0, w51_1, w51_2, w51_5, w51_6, w51_7, w51_10, w51_11, w51_12, w51_15, w51_16, w51_17, w51_20, w51_21, w51_22, w51_25, w51_26, w51_29, w51_30, w51_33, w51_34, w51_37, w51_38, w51_40, w51_43, w51_46, w51_47, w51_50, w51_51, w51_54, w51_57, w51_58, w51_61, w51_64, w51_65, w51_68, w51_69, w51_72, w51_75, w51_78, w51_79, w51_82, ks_2, g1', rS_2, hl1, g2', rS_3, ez, y, ↓reduceIte, Option.toList_some, Option.toList_none, List.cons_append, List.nil_append]
    · rw [if_neg z]
      have h2 : nI L ≤ nI p := nI_le (by omega) (by omega)
      refine ⟨rS ρ (p, 0, 0), fun Q v1 v2 => ?_, ρ, p, rfl, by omega, fun _ _ _ _ => rfl, hC.1.2.1, fun _ => ⟨rfl, hC⟩⟩
      rw [w51_39]
      simp only [w51_0, w51_1, w51_2, w51_5, w51_6, w51_7, w51_10, w51_11, w51_12, w51_15, w51_16, w51_17, w51_20, w51_21, w51_22, w51_25, w51_26, w51_29, w51_30, w51_33, w51_34, w51_37, w51_38, w51_40, w51_43, w51_46, w51_47, w51_50, w51_51, w51_54, w51_57, w51_58, w51_61, w51_64, w51_65, w51_68, w51_69, w51_72, w51_75, w51_78, w51_79, w51_82, ks_2, h1, rS_2, hl, h2, rS_3, ↓reduceIte, Option.toList_some, Option.toList_none, List.cons_append, List.nil_append]
theorem DC_0 (hP : CK D) (hR : CR ρ D) : DC (scL D 0 (swB D 0 ρ)) D (fun _ => 0) := by
  obtain ⟨⟨_, hR2, ⟨i0, i2, i3, i4⟩, f1, f2, f3, f4, f5, f6, f7⟩, h1⟩ := DC_sw (N := 0) hP hR (by omega)
  exact ⟨⟨hP, hR2, ⟨i0, i2, i3, i4⟩, fun x hx => absurd hx (Nat.not_lt_zero _), fun x hx => absurd hx (Nat.not_lt_zero _), fun x hx => absurd hx (Nat.not_lt_zero _), fun x hx => absurd hx (Nat.not_lt_zero _), fun x hx => absurd hx (Nat.not_lt_zero _), fun x hx => absurd hx (Nat.not_lt_zero _), fun _ => f7 rfl⟩, h1⟩
theorem DW_0 : DW (fun _ => 0) := ⟨⟨Nat.zero_le _, Nat.zero_le _, Nat.zero_le _, Nat.zero_le _, fun x hx => absurd hx (Nat.not_lt_zero _), fun x hx => absurd hx (Nat.not_lt_zero _), fun x hx => absurd hx (Nat.not_lt_zero _), fun x hx => absurd hx (Nat.not_lt_zero _), fun x hx => absurd hx (Nat.not_lt_zero _)⟩, Nat.zero_le _, fun _ _ => rfl⟩
/-- the whole text, purely -/
def txT (L : Nat) (tx : Nat → Nat) : (Nat × Nat × Nat) × (Nat → Nat) := prT L tx 240 (skB L tx 0) (fun _ => 0)
theorem rd_base : dm_up (dm_up (dm_up ρ 2 2 (.int (nI 0))) 2 3 (.int (nI 0))) 2 4 (.int (-1)) = rS ρ (0, 0, 0) := rfl
theorem c_read (hD : D = 4 ∨ D = 14) (hP : CK D) (hR : CR ρ D) (h5 : ρ 2 5 = .ref D) (hL : L ≤ 240) (ht : ∀ i, i < L → tx i < 256) (hx : ∀ i, i < L → gi ρ 1 i = nI (tx i)) :
    ∃ τ, Er 51 [(.ref (2 : Nat)), (.ref (1 : Nat)), .int (nI L)] ρ (some (.int (nI (txT L tx).1.2.1))) τ ∧ CPo D (scL D 0 (swB D 0 (dm_up (dm_up ρ 2 0 (.ref (1 : Nat))) 2 1 (.int (nI L))))) (txT L tx) τ := by
  have hD4 : 4 ≤ D := by omega
  have hdk : D < 121 := by omega
  have h1k : 1 < 121 := by omega
  have b0 : bS 0 (0, 0, 0) := ⟨Nat.zero_le _, Nat.zero_le _⟩
  have hb := skB_le (L := L) (tx := tx) 0
  generalize hρ1 : dm_up (dm_up ρ 2 0 (.ref (1 : Nat))) 2 1 (.int (nI L)) = ρ1
  have hR1 : CR ρ1 D := by
    rw [← hρ1]
    exact CR_o (fun j hj => by rw [up_get, if_neg (by omega), up_get, if_neg (by omega)]) hR
  have hR2 : ∀ s, CR (rS ρ1 s) D := fun s => by rw [CR_rS hD4]; exact hR1
  have hT1 : tXt L tx ρ1 := by
    rw [← hρ1]
    refine ⟨hL, ht, rfl, rfl, fun i hi => ?_⟩
    refine (gi_of ?_).trans (hx i hi)
    rw [up_get, if_neg (by omega), up_get, if_neg (by omega)]
  have f5 : ρ1 2 5 = .ref D := by rw [← hρ1, up_get, if_neg (by omega), up_get, if_neg (by omega)]; exact h5
  have e5 : ∀ s, rS ρ1 s 2 5 = .ref D := fun s => (rS_out (by omega)).trans f5
  have hT2 : tXt L tx (scL D 0 (swB D 0 ρ1)) := tXt_of (fun a b z => (scL_o (by omega) 0).trans (swB_o (by omega))) hT1
  have f52 : scL D 0 (swB D 0 ρ1) 2 5 = .ref D := ((scL_o (by omega) 0).trans (swB_o (by omega))).trans f5
  obtain ⟨τ, hr, hp⟩ := l_read (L := L) (tx := tx) hD 240 0 (skB L tx 0) (scL D 0 (swB D 0 ρ1)) (fun _ => 0) (by omega) (by omega) (by omega) hT2 (DC_0 hP hR1) DW_0 f52
  refine ⟨τ, Er_of ?_, hp⟩
  show Wq none 51 0 [some (.ref (2 : Nat)), some (.ref (1 : Nat)), some (.int (nI L)), none] [] ρ _
  simp only [w51_0, w51_1, w51_2, w51_5, w51_6, w51_7, w51_10, w51_11, w51_12, w51_15, w51_16, w51_17, w51_20, w51_21, w51_22, w51_25, w51_26, w51_29, w51_30, w51_33, w51_34, w51_37, w51_38, w51_40, w51_43, w51_46, w51_47, w51_50, w51_51, w51_54, w51_57, w51_58, w51_61, w51_64, w51_65, w51_68, w51_69, w51_72, w51_75, w51_78, w51_79, w51_82, ks_2, hP.1, h1k, hdk, rd_base, hρ1, e5, c_swN hP (hR2 _) (show 0 ≤ 8 by omega), scL_rS hD4, swB_rS hD4, c_skS hT2 b0 (by omega), ↓reduceIte, Option.toList_some, Option.toList_none, List.cons_append, List.nil_append]
  exact Eq.mpr (hr _ _ _) ⟨rfl, rfl⟩
theorem c_give {P : Nat} (h5 : ρ 2 5 = .ref D) (hD : D < 121) (hP : P < 121) : Cq 52 [(.ref (2 : Nat)), .ref P] ρ Q = Q (some (.ref D)) (dm_up ρ 2 5 (.ref P)) := by
  refine Cq_of (Er_of ?_)
  show Wq none 52 0 [some (.ref (2 : Nat)), some (.ref P), none] [] ρ _
  simp only [w52_0, w52_1, w52_4, w52_5, w52_6, w52_7, w52_10, w52_11, ks_2, h5, hD, hP, ↓reduceIte, Option.toList_some, Option.toList_none, List.cons_append, List.nil_append, and_self]
end CR
