/-! the text: the class's moons, a clause, the whole text -/
def mnT (L : Nat) (tx : Nat → Nat) : Nat → Nat → (Nat → Nat) → (Nat × Nat × Nat) × (Nat → Nat) := fun f => match f with
  | 0 => fun p rd => ((p, 1, p), rd)
  | f + 1 => fun p rd => if kN L tx 0 9 p = 0 then (if ltI L tx (skB L tx (nuE L tx p)) = nI 44 ∧ ¬ f = 0 then mnT L tx f (skB L tx (nuE L tx p) + 1) (rdM rd (nuV L tx p)) else (psSg L tx 59 (skB L tx (nuE L tx p), 0, 0), rdM rd (nuV L tx p))) else ((nuE L tx p, kN L tx 0 9 p, skB L tx p), rd)
section CM
variable {L : Nat} {tx : Nat → Nat} {ρ : dm_G} {D k : Nat} {rd : Nat → Nat} {s : Nat × Nat × Nat} {Q : Option Value → dm_G → Prop}
theorem mnS {f p : Nat} : mnT L tx (f + 1) p rd = if kN L tx 0 9 p = 0 then (if ltI L tx (skB L tx (nuE L tx p)) = nI 44 ∧ ¬ f = 0 then mnT L tx f (skB L tx (nuE L tx p) + 1) (rdM rd (nuV L tx p)) else (psSg L tx 59 (skB L tx (nuE L tx p), 0, 0), rdM rd (nuV L tx p))) else ((nuE L tx p, kN L tx 0 9 p, skB L tx p), rd) := rfl
theorem tXt_of {σ : dm_G} (hk : ∀ a b, a < 2 ∨ (a = 2 ∧ b < 2) → σ a b = ρ a b) (h : tXt L tx ρ) : tXt L tx σ := by
  obtain ⟨h1, h2, h3, h4, h5⟩ := h
  exact ⟨h1, h2, (hk _ _ (by omega)).trans h3, (hk _ _ (by omega)).trans h4, fun i hi => (gi_of (hk _ _ (by omega))).trans (h5 i hi)⟩
theorem c_skS (hT : tXt L tx ρ) (hb : bS k s) (hk : k ≤ 100) : Cq 63 [(.ref (2 : Nat))] (rS ρ s) Q = Q none (rS ρ (skB L tx s.1, s.2)) := c_skip hT (by have := hb.1; omega)
theorem c_ltS (hT : tXt L tx ρ) (hb : bS k s) (hk : k ≤ 100) : Cq 64 [(.ref (2 : Nat))] (rS ρ s) Q = Q (some (.int (ltI L tx s.1))) (rS ρ s) := c_letter hT (by have := hb.1; omega)
theorem rS_p {p : Nat} : dm_up (rS ρ s) 2 2 (.int (nI p)) = rS ρ (p, s.2) := rdS_2
theorem c_nuS {l m q : Nat} (hT : tXt L tx ρ) (hb : q ≤ 250) (hl : l ≤ 1000) (hm : m ≤ 1000) : Cq 61 [(.ref (2 : Nat)), .int (nI l), .int (nI m)] (rS ρ (q, 0, 0)) Q = Q (some (.int (nI (nuV L tx q)))) (rS ρ (nuE L tx q, kN L tx l m q, skB L tx q)) := c_numb (s := (q, 0, 0)) hT (show q < 2 ^ 20 by omega) (Nat.zero_le _) hl hm
theorem rS_b {p b : Nat} : rS ρ (p, 0, b) = rS ρ (p, 0, 0) := rfl
theorem sg_w {ch p w b : Nat} (h : ¬ w = 0) : (psSg L tx ch (p, w, b)).2 = (w, b) := by
  show ((if w = 0 then (if ltI L tx (skB L tx p) = nI ch then 0 else 1) else w), (if w = 0 then skB L tx p else b)) = (w, b)
  rw [if_neg h, if_neg h]
theorem l_mx {i : Nat} (hT : tXt L tx ρ) (hb : bS k s) (hk : k ≤ 100) (hi : i < 12) : Wq none 58 95 [some (.ref (2 : Nat)), some (.int (nI 0)), some (.int (nI i))] [] (rS ρ s) Q = Q none (rS ρ (psSg L tx 59 s)) := by
  by_cases z : 12 ≤ i + 1
  · have h1 : nI 12 ≤ nI (i + 1) := nI_le z (by omega)
    simp only [w58_0, w58_1, w58_2, w58_5, w58_8, w58_11, w58_12, w58_15, w58_16, w58_19, w58_20, w58_21, w58_22, w58_23, w58_24, w58_26, w58_29, w58_30, w58_33, w58_34, w58_37, w58_40, w58_41, w58_44, w58_45, w58_46, w58_48, w58_51, w58_54, w58_55, w58_58, w58_59, w58_62, w58_64, w58_67, w58_68, w58_69, w58_70, w58_72, w58_75, w58_76, w58_79, w58_80, w58_81, w58_82, w58_85, w58_86, w58_86i, w58_87, w58_90, w58_91, w58_92, w58_95, w58_98, w58_101, w58_102, w58_104, w58_107, ks_2, nI_add, h1, c_sg hT hb hk, ↓reduceIte, Option.toList_some, Option.toList_none, List.cons_append, List.nil_append]
  · have h1 : ¬ nI 12 ≤ nI (i + 1) := nI_ge (by omega) (by omega)
    simp only [w58_0, w58_1, w58_2, w58_5, w58_8, w58_11, w58_12, w58_15, w58_16, w58_19, w58_20, w58_21, w58_22, w58_23, w58_24, w58_26, w58_29, w58_30, w58_33, w58_34, w58_37, w58_40, w58_41, w58_44, w58_45, w58_46, w58_48, w58_51, w58_54, w58_55, w58_58, w58_59, w58_62, w58_64, w58_67, w58_68, w58_69, w58_70, w58_72, w58_75, w58_76, w58_79, w58_80, w58_81, w58_82, w58_85, w58_86, w58_86i, w58_87, w58_90, w58_91, w58_92, w58_95, w58_98, w58_101, w58_102, w58_104, w58_107, ks_2, nI_add, h1, c_sg hT hb hk, ↓reduceIte, Option.toList_some, Option.toList_none, List.cons_append, List.nil_append]
theorem l_mf {i : Nat} (hT : tXt L tx ρ) (hb : bS k s) (hk : k ≤ 100) (hi : i < 12) (hf : ¬ s.2.1 = 0) : Wq none 58 95 [some (.ref (2 : Nat)), some (.int (nI 1)), some (.int (nI i))] [] (rS ρ s) Q = Q none (rS ρ (psSg L tx 59 s)) := by
  have e : nI s.2.1 = nI 0 ↔ s.2.1 = 0 := nI_eq (by have := hb.2; omega) (by omega)
  by_cases z : 12 ≤ i + 1
  · have h1 : nI 12 ≤ nI (i + 1) := nI_le z (by omega)
    simp only [w58_0, w58_1, w58_2, w58_5, w58_8, w58_11, w58_12, w58_15, w58_16, w58_19, w58_20, w58_21, w58_22, w58_23, w58_24, w58_26, w58_29, w58_30, w58_33, w58_34, w58_37, w58_40, w58_41, w58_44, w58_45, w58_46, w58_48, w58_51, w58_54, w58_55, w58_58, w58_59, w58_62, w58_64, w58_67, w58_68, w58_69, w58_70, w58_72, w58_75, w58_76, w58_79, w58_80, w58_81, w58_82, w58_85, w58_86, w58_86i, w58_87, w58_90, w58_91, w58_92, w58_95, w58_98, w58_101, w58_102, w58_104, w58_107, ks_2, nI_add, h1, c_sg hT hb hk, ↓reduceIte, Option.toList_some, Option.toList_none, List.cons_append, List.nil_append]
  · have h1 : ¬ nI 12 ≤ nI (i + 1) := nI_ge (by omega) (by omega)
    simp only [w58_0, w58_1, w58_2, w58_5, w58_8, w58_11, w58_12, w58_15, w58_16, w58_19, w58_20, w58_21, w58_22, w58_23, w58_24, w58_26, w58_29, w58_30, w58_33, w58_34, w58_37, w58_40, w58_41, w58_44, w58_45, w58_46, w58_48, w58_51, w58_54, w58_55, w58_58, w58_59, w58_62, w58_64, w58_67, w58_68, w58_69, w58_70, w58_72, w58_75, w58_76, w58_79, w58_80, w58_81, w58_82, w58_85, w58_86, w58_86i, w58_87, w58_90, w58_91, w58_92, w58_95, w58_98, w58_101, w58_102, w58_104, w58_107, ks_2, nI_add, h1, nI_ne1, rS_3, e, hf, c_sg hT hb hk, ↓reduceIte, Option.toList_some, Option.toList_none, List.cons_append, List.nil_append]
theorem CPo_e {σ : dm_G} {r : (Nat × Nat × Nat) × (Nat → Nat)} {τ : dm_G} (hk : ∀ a b, ¬ (D ≤ a ∧ a ≤ D + 9) → ¬ (a = 2 ∧ 1 < b ∧ b < 5) → ρ a b = σ a b) (h : CPo D ρ r τ) : CPo D σ r τ := by
  obtain ⟨ρ1, p, h1, h2, h3, h4, h5⟩ := h
  exact ⟨ρ1, p, h1, h2, fun a b z1 z2 => (h3 a b z1 z2).trans (hk a b z1 z2), h4, h5⟩
theorem adM_o {i v a b : Nat} (h : ¬ (D ≤ a ∧ a ≤ D + 9)) : adM D i v ρ a b = ρ a b := by
  unfold adM
  rw [up_get, if_neg (by omega), up_get, if_neg (by omega)]
theorem adM_CR {i v : Nat} (h : CR ρ D) : CR (adM D i v ρ) D := CR_o (fun j hj => by
  unfold adM
  rw [up_get, if_neg (by omega), up_get, if_neg (by omega)]) h
theorem l_m1 {q : Nat} (hT : tXt L tx ρ) (hC : DC ρ D rd) (hD : D = 4 ∨ D = 14) (h5 : ρ 2 5 = .ref D) (hq : q ≤ 241) (hi : rd 4 < 12) : Wq none 58 23 [some (.ref (2 : Nat)), some (.int (nI 1)), some (.int (nI (rd 4)))] [] (rS ρ (q, 0, 0)) Q = Wq none 58 64 [some (.ref (2 : Nat)), some (.int (nI 1)), some (.int (nI (rd 4)))] [.int (nI 44), .int (ltI L tx (skB L tx (nuE L tx q)))] (rS (adM D (rd 4) (nuV L tx q) ρ) (skB L tx (nuE L tx q), kN L tx 0 9 q, skB L tx q)) Q := by
  have hD4 : 4 ≤ D := by omega
  have hL := hT.1
  have he := nuE_le (L := L) (tx := tx) q
  have hb := skB_le (L := L) (tx := tx) q
  have hb2 := skB_le (L := L) (tx := tx) (nuE L tx q)
  have hk := kN_3 (L := L) (tx := tx) (l := 0) (m := 9) (p := q)
  have h1 : ¬ nI 12 ≤ nI (rd 4) := nI_ge (by omega) (by omega)
  have kP := hC.1.1.1
  have e5 : ∀ s, rS ρ s 2 5 = .ref D := fun s => (rS_out (by omega)).trans h5
  have e4 : ∀ s, rS ρ s D 4 = .int (nI (rd 4)) := fun s => (rS_out (by omega)).trans hC.1.2.2.1.2.2.2
  have hCR : ∀ s, CR (rS ρ s) D := fun s => (by rw [CR_rS hD4]; exact hC.1.2.1)
  have hT2 : tXt L tx (adM D (rd 4) (nuV L tx q) ρ) := tXt_of (fun a b z => adM_o (by omega)) hT
  have b1 : bS 10 (nuE L tx q, kN L tx 0 9 q, skB L tx q) := ⟨show nuE L tx q ≤ 240 + 10 by omega, show kN L tx 0 9 q ≤ 3 by omega⟩
  have b2 : bS 10 (skB L tx (nuE L tx q), kN L tx 0 9 q, skB L tx q) := ⟨show skB L tx (nuE L tx q) ≤ 240 + 10 by omega, show kN L tx 0 9 q ≤ 3 by omega⟩
  simp only [w58_0, w58_1, w58_2, w58_5, w58_8, w58_11, w58_12, w58_15, w58_16, w58_19, w58_20, w58_21, w58_22, w58_23, w58_24, w58_26, w58_29, w58_30, w58_33, w58_34, w58_37, w58_40, w58_41, w58_44, w58_45, w58_46, w58_48, w58_51, w58_54, w58_55, w58_58, w58_59, w58_62, w58_67, w58_68, w58_69, w58_70, w58_72, w58_75, w58_76, w58_79, w58_80, w58_81, w58_82, w58_85, w58_86, w58_86i, w58_87, w58_90, w58_91, w58_92, w58_95, w58_98, w58_101, w58_102, w58_104, w58_107, ks_2, kP, h1, nI_ne1, e5, rS_3, c_nuS hT (show q ≤ 250 by omega) (show 0 ≤ 1000 by omega) (show 9 ≤ 1000 by omega), c_addM hC.1.1 (hCR _) (e4 _) hi, adM_rS hD4, c_skS hT2 b1 (by omega), c_ltS hT2 b2 (by omega), ↓reduceIte, Option.toList_some, Option.toList_none, List.cons_append, List.nil_append]
theorem l_mS {q : Nat} (hT : tXt L tx ρ) (hC : DC ρ D rd) (hD : D = 4 ∨ D = 14) (h5 : ρ 2 5 = .ref D) (hq : q ≤ 241) (hi : rd 4 < 12) (hk : kN L tx 0 9 q = 0) (hc : ltI L tx (skB L tx (nuE L tx q)) = nI 44) (hi2 : rd 4 + 1 < 12) : Wq none 58 23 [some (.ref (2 : Nat)), some (.int (nI 1)), some (.int (nI (rd 4)))] [] (rS ρ (q, 0, 0)) Q = Wq none 58 23 [some (.ref (2 : Nat)), some (.int (nI 1)), some (.int (nI (rd 4 + 1)))] [] (rS (adM D (rd 4) (nuV L tx q) ρ) (skB L tx (nuE L tx q) + 1, 0, 0)) Q := by
  have h2 : ¬ nI 12 ≤ nI (rd 4 + 1) := nI_ge (by omega) (by omega)
  rw [l_m1 hT hC hD h5 hq hi, hk, hc, rS_b]
  simp only [w58_0, w58_1, w58_2, w58_5, w58_8, w58_11, w58_12, w58_15, w58_16, w58_19, w58_20, w58_21, w58_22, w58_24, w58_26, w58_29, w58_30, w58_33, w58_34, w58_37, w58_40, w58_41, w58_44, w58_45, w58_46, w58_48, w58_51, w58_54, w58_55, w58_58, w58_59, w58_62, w58_64, w58_67, w58_68, w58_69, w58_70, w58_72, w58_75, w58_76, w58_79, w58_80, w58_81, w58_82, w58_85, w58_86, w58_86i, w58_87, w58_90, w58_91, w58_92, w58_95, w58_98, w58_101, w58_102, w58_104, w58_107, ks_2, nI_add, h2, nI_ne1, rS_2, rS_p, ↓reduceIte, Option.toList_some, Option.toList_none, List.cons_append, List.nil_append]
theorem l_mE {q : Nat} (hT : tXt L tx ρ) (hC : DC ρ D rd) (hD : D = 4 ∨ D = 14) (h5 : ρ 2 5 = .ref D) (hq : q ≤ 241) (hi : rd 4 < 12) (hk : kN L tx 0 9 q = 0) (hc : ¬ (ltI L tx (skB L tx (nuE L tx q)) = nI 44 ∧ rd 4 + 1 < 12)) : Wq none 58 23 [some (.ref (2 : Nat)), some (.int (nI 1)), some (.int (nI (rd 4)))] [] (rS ρ (q, 0, 0)) Q = Q none (rS (adM D (rd 4) (nuV L tx q) ρ) (psSg L tx 59 (skB L tx (nuE L tx q), 0, 0))) := by
  have hL := hT.1
  have he := nuE_le (L := L) (tx := tx) q
  have hb := skB_le (L := L) (tx := tx) q
  have hb2 := skB_le (L := L) (tx := tx) (nuE L tx q)
  have hT2 : tXt L tx (adM D (rd 4) (nuV L tx q) ρ) := tXt_of (fun a b z => adM_o (by omega)) hT
  have b2 : bS 10 (skB L tx (nuE L tx q), 0, 0) := ⟨show skB L tx (nuE L tx q) ≤ 240 + 10 by omega, show 0 ≤ 3 by omega⟩
  rw [l_m1 hT hC hD h5 hq hi, hk, rS_b]
  by_cases y : ltI L tx (skB L tx (nuE L tx q)) = nI 44
  · have y2 : ¬ rd 4 + 1 < 12 := fun w => hc ⟨y, w⟩
    have h2 : nI 12 ≤ nI (rd 4 + 1) := nI_le (by omega) (by omega)
    rw [y]
    simp only [w58_0, w58_1, w58_2, w58_5, w58_8, w58_11, w58_12, w58_15, w58_16, w58_19, w58_20, w58_21, w58_22, w58_23, w58_24, w58_26, w58_29, w58_30, w58_33, w58_34, w58_37, w58_40, w58_41, w58_44, w58_45, w58_46, w58_48, w58_51, w58_54, w58_55, w58_58, w58_59, w58_62, w58_64, w58_67, w58_68, w58_69, w58_70, w58_72, w58_75, w58_76, w58_79, w58_80, w58_81, w58_82, w58_85, w58_86, w58_86i, w58_87, w58_90, w58_91, w58_92, w58_98, w58_101, w58_102, w58_104, w58_107, ks_2, nI_add, h2, l_mx hT2 b2 (by omega) hi, ↓reduceIte, Option.toList_some, Option.toList_none, List.cons_append, List.nil_append]
  · simp only [w58_0, w58_1, w58_2, w58_5, w58_8, w58_11, w58_12, w58_15, w58_16, w58_19, w58_20, w58_21, w58_22, w58_23, w58_24, w58_26, w58_29, w58_30, w58_33, w58_34, w58_37, w58_40, w58_41, w58_44, w58_45, w58_46, w58_48, w58_51, w58_54, w58_55, w58_58, w58_59, w58_62, w58_64, w58_67, w58_68, w58_69, w58_70, w58_72, w58_75, w58_76, w58_79, w58_80, w58_81, w58_82, w58_85, w58_86, w58_86i, w58_87, w58_90, w58_91, w58_92, w58_98, w58_101, w58_102, w58_104, w58_107, ks_2, y, l_mx hT2 b2 (by omega) hi, ↓reduceIte, Option.toList_some, Option.toList_none, List.cons_append, List.nil_append]
theorem l_mF {q : Nat} (hT : tXt L tx ρ) (hC : DC ρ D rd) (hD : D = 4 ∨ D = 14) (h5 : ρ 2 5 = .ref D) (hq : q ≤ 241) (hi : rd 4 < 12) (hk : ¬ kN L tx 0 9 q = 0) : ∃ P, P ≤ 300 ∧ ∀ Q, Wq none 58 23 [some (.ref (2 : Nat)), some (.int (nI 1)), some (.int (nI (rd 4)))] [] (rS ρ (q, 0, 0)) Q = Q none (rS (adM D (rd 4) (nuV L tx q) ρ) (P, kN L tx 0 9 q, skB L tx q)) := by
  have hL := hT.1
  have he := nuE_le (L := L) (tx := tx) q
  have hb := skB_le (L := L) (tx := tx) q
  have hb2 := skB_le (L := L) (tx := tx) (nuE L tx q)
  have hk3 := kN_3 (L := L) (tx := tx) (l := 0) (m := 9) (p := q)
  have hT2 : tXt L tx (adM D (rd 4) (nuV L tx q) ρ) := tXt_of (fun a b z => adM_o (by omega)) hT
  have b2 : bS 10 (skB L tx (nuE L tx q), kN L tx 0 9 q, skB L tx q) := ⟨show skB L tx (nuE L tx q) ≤ 240 + 10 by omega, show kN L tx 0 9 q ≤ 3 by omega⟩
  have b3 : bS 11 (skB L tx (nuE L tx q) + 1, kN L tx 0 9 q, skB L tx q) := ⟨show skB L tx (nuE L tx q) + 1 ≤ 240 + 11 by omega, show kN L tx 0 9 q ≤ 3 by omega⟩
  have b4 := bS_sg (tx := tx) (ch := 59) hL b2
  have b5 := bS_sg (tx := tx) (ch := 59) hL b3
  have es : ∀ p, psSg L tx 59 (p, kN L tx 0 9 q, skB L tx q) = ((psSg L tx 59 (p, kN L tx 0 9 q, skB L tx q)).1, kN L tx 0 9 q, skB L tx q) := fun p => Prod.ext rfl (sg_w hk)
  by_cases y : ltI L tx (skB L tx (nuE L tx q)) = nI 44 ∧ rd 4 + 1 < 12
  · have h2 : ¬ nI 12 ≤ nI (rd 4 + 1) := nI_ge (by omega) (by omega)
    refine ⟨(psSg L tx 59 (skB L tx (nuE L tx q) + 1, kN L tx 0 9 q, skB L tx q)).1, by have := b5.1; omega, fun Q => ?_⟩
    rw [← es, l_m1 hT hC hD h5 hq hi, y.1]
    simp only [w58_0, w58_1, w58_2, w58_5, w58_8, w58_11, w58_12, w58_15, w58_16, w58_19, w58_20, w58_21, w58_22, w58_23, w58_24, w58_26, w58_29, w58_30, w58_33, w58_34, w58_37, w58_40, w58_41, w58_44, w58_45, w58_46, w58_48, w58_51, w58_54, w58_55, w58_58, w58_59, w58_62, w58_64, w58_67, w58_68, w58_69, w58_70, w58_72, w58_75, w58_76, w58_79, w58_80, w58_81, w58_82, w58_85, w58_86, w58_86i, w58_87, w58_90, w58_91, w58_92, w58_98, w58_101, w58_102, w58_104, w58_107, ks_2, nI_add, h2, nI_ne1, rS_2, rS_p, l_mf hT2 b3 (by omega) hi hk, ↓reduceIte, Option.toList_some, Option.toList_none, List.cons_append, List.nil_append]
  · refine ⟨(psSg L tx 59 (skB L tx (nuE L tx q), kN L tx 0 9 q, skB L tx q)).1, by have := b4.1; omega, fun Q => ?_⟩
    rw [← es, l_m1 hT hC hD h5 hq hi]
    by_cases y1 : ltI L tx (skB L tx (nuE L tx q)) = nI 44
    · have y2 : ¬ rd 4 + 1 < 12 := fun w => y ⟨y1, w⟩
      have h2 : nI 12 ≤ nI (rd 4 + 1) := nI_le (by omega) (by omega)
      rw [y1]
      simp only [w58_0, w58_1, w58_2, w58_5, w58_8, w58_11, w58_12, w58_15, w58_16, w58_19, w58_20, w58_21, w58_22, w58_23, w58_24, w58_26, w58_29, w58_30, w58_33, w58_34, w58_37, w58_40, w58_41, w58_44, w58_45, w58_46, w58_48, w58_51, w58_54, w58_55, w58_58, w58_59, w58_62, w58_64, w58_67, w58_68, w58_69, w58_70, w58_72, w58_75, w58_76, w58_79, w58_80, w58_81, w58_82, w58_85, w58_86, w58_86i, w58_87, w58_90, w58_91, w58_92, w58_98, w58_101, w58_102, w58_104, w58_107, ks_2, nI_add, h2, l_mx hT2 b2 (by omega) hi, ↓reduceIte, Option.toList_some, Option.toList_none, List.cons_append, List.nil_append]
    · simp only [w58_0, w58_1, w58_2, w58_5, w58_8, w58_11, w58_12, w58_15, w58_16, w58_19, w58_20, w58_21, w58_22, w58_23, w58_24, w58_26, w58_29, w58_30, w58_33, w58_34, w58_37, w58_40, w58_41, w58_44, w58_45, w58_46, w58_48, w58_51, w58_54, w58_55, w58_58, w58_59, w58_62, w58_64, w58_67, w58_68, w58_69, w58_70, w58_72, w58_75, w58_76, w58_79, w58_80, w58_81, w58_82, w58_85, w58_86, w58_86i, w58_87, w58_90, w58_91, w58_92, w58_98, w58_101, w58_102, w58_104, w58_107, ks_2, y1, l_mx hT2 b2 (by omega) hi, ↓reduceIte, Option.toList_some, Option.toList_none, List.cons_append, List.nil_append]
theorem rdM_o {v j : Nat} (h : ¬ j = 4 ∧ ¬ j = 67 + rd 4) : rdM rd v j = rd j := by
  unfold rdM
  rw [upN_n (by omega), upN_n (by omega)]
theorem rdM_4 {v : Nat} : rdM rd v 4 = rd 4 + 1 := by
  unfold rdM
  rw [upN_y]
theorem nuE_L {l m p : Nat} (h : kN L tx l m p = 0) : p < nuE L tx p ∧ nuE L tx p ≤ L := by
  have h1 := (kN_ok h).1
  have he := nuE_le (L := L) (tx := tx) p
  have hb := skB_le (L := L) (tx := tx) p
  omega
theorem lt_L {p ch : Nat} (h : ltI L tx p = nI ch) (hc : ch < 2 ^ 31) : p < L := by
  unfold ltI at h
  by_cases z : p < L
  · exact z
  · rw [if_neg z] at h
    exact absurd h (nI_m1 hc)
theorem l_moon (hD : D = 4 ∨ D = 14) : ∀ (f q : Nat) (ρ : dm_G) (rd : Nat → Nat), f + 1 + rd 4 = 12 → tXt L tx ρ → DC ρ D rd → ρ 2 5 = .ref D → q ≤ 241 → rd 0 ≤ 8 → rd 2 ≤ 6 → rd 3 ≤ 6 →
    ∃ τ, (∀ Q, Wq none 58 23 [some (.ref (2 : Nat)), some (.int (nI 1)), some (.int (nI (rd 4)))] [] (rS ρ (q, 0, 0)) Q = Q none τ) ∧ CPo D ρ (mnT L tx (f + 1) q rd) τ := by
  intro f
  induction f with
  | zero =>
    intro q ρ rd hi hT hC h5 hq h0 h2 h3
    have hb2 := skB_le (L := L) (tx := tx) (nuE L tx q)
    have hL := hT.1
    by_cases hk : kN L tx 0 9 q = 0
    · have hn := nuE_L hk
      have b2 : bS 10 (skB L tx (nuE L tx q), 0, 0) := ⟨show skB L tx (nuE L tx q) ≤ 240 + 10 by omega, show 0 ≤ 3 by omega⟩
      have b4 := bS_sg (tx := tx) (ch := 59) hL b2
      refine ⟨_, fun Q => l_mE hT hC hD h5 hq (by omega) hk (by omega), ?_⟩
      rw [mnS, if_pos hk, if_neg (by omega)]
      exact ⟨_, (psSg L tx 59 (skB L tx (nuE L tx q), 0, 0)).1, rfl, by have := b4.1; omega, fun a b z1 z2 => adM_o z1, adM_CR hC.1.2.1, fun _ => ⟨rfl, DC_aM hC h0 h2 h3⟩⟩
    · obtain ⟨P, hP, hrun⟩ := l_mF hT hC hD h5 hq (by omega) hk
      refine ⟨_, hrun, ?_⟩
      rw [mnS, if_neg hk]
      exact ⟨_, _, rfl, hP, fun a b z1 z2 => adM_o z1, adM_CR hC.1.2.1, fun z => absurd z hk⟩
  | succ f ih =>
    intro q ρ rd hi hT hC h5 hq h0 h2 h3
    have hb2 := skB_le (L := L) (tx := tx) (nuE L tx q)
    have hL := hT.1
    by_cases hk : kN L tx 0 9 q = 0
    · have hn := nuE_L hk
      by_cases y : ltI L tx (skB L tx (nuE L tx q)) = nI 44
      · obtain ⟨τ, hr, hp⟩ := ih (skB L tx (nuE L tx q) + 1) (adM D (rd 4) (nuV L tx q) ρ) (rdM rd (nuV L tx q)) (by rw [rdM_4]; omega) (tXt_of (fun a b z => adM_o (by omega)) hT) (DC_aM hC h0 h2 h3) ((adM_o (by omega)).trans h5) (by omega) (by rw [rdM_o (by omega)]; exact h0) (by rw [rdM_o (by omega)]; exact h2) (by rw [rdM_o (by omega)]; exact h3)
        rw [rdM_4] at hr
        refine ⟨τ, fun Q => (l_mS hT hC hD h5 hq (by omega) hk y (by omega)).trans (hr Q), ?_⟩
        rw [mnS, if_pos hk, if_pos ⟨y, by omega⟩]
        exact CPo_e (fun a b z1 z2 => adM_o z1) hp
      · have b2 : bS 10 (skB L tx (nuE L tx q), 0, 0) := ⟨show skB L tx (nuE L tx q) ≤ 240 + 10 by omega, show 0 ≤ 3 by omega⟩
        have b4 := bS_sg (tx := tx) (ch := 59) hL b2
        refine ⟨_, fun Q => l_mE hT hC hD h5 hq (by omega) hk (fun z => y z.1), ?_⟩
        rw [mnS, if_pos hk, if_neg (fun z => y z.1)]
        exact ⟨_, (psSg L tx 59 (skB L tx (nuE L tx q), 0, 0)).1, rfl, by have := b4.1; omega, fun a b z1 z2 => adM_o z1, adM_CR hC.1.2.1, fun _ => ⟨rfl, DC_aM hC h0 h2 h3⟩⟩
    · obtain ⟨P, hP, hrun⟩ := l_mF hT hC hD h5 hq (by omega) hk
      refine ⟨_, hrun, ?_⟩
      rw [mnS, if_neg hk]
      exact ⟨_, _, rfl, hP, fun a b z1 z2 => adM_o z1, adM_CR hC.1.2.1, fun z => absurd z hk⟩
def tM (L : Nat) (tx : Nat → Nat) (rd : Nat → Nat) (p : Nat) : (Nat × Nat × Nat) × (Nat → Nat) := if rd 4 = 0 then mnT L tx 12 (p + 1) rd else ((p, 3, p), rd)
theorem c_readM {p : Nat} (hT : tXt L tx ρ) (hC : DC ρ D rd) (hD : D = 4 ∨ D = 14) (h5 : ρ 2 5 = .ref D) (hp : p ≤ 240) (h0 : rd 0 ≤ 8) (h2 : rd 2 ≤ 6) (h3 : rd 3 ≤ 6) (h4 : rd 4 ≤ 12) : ∃ τ, Er 58 [(.ref (2 : Nat))] (rS ρ (p, 0, 0)) none τ ∧ CPo D ρ (tM L tx rd p) τ := by
  have e5 : ∀ s, rS ρ s 2 5 = .ref D := fun s => (rS_out (by omega)).trans h5
  have e4 : ∀ s, rS ρ s D 4 = .int (nI (rd 4)) := fun s => (rS_out (by omega)).trans hC.1.2.2.1.2.2.2
  have kP := hC.1.1.1
  have hL := hT.1
  have b0 : bS 0 (p, 0, 0) := ⟨hp, Nat.zero_le _⟩
  have e : nI (rd 4) = nI 0 ↔ rd 4 = 0 := nI_eq (by omega) (by omega)
  unfold tM
  by_cases z : rd 4 = 0
  · rw [if_pos z]
    obtain ⟨τ, hr, hpo⟩ := l_moon (L := L) (tx := tx) hD 11 (p + 1) ρ rd (by omega) hT hC h5 (by omega) h0 h2 h3
    rw [z] at hr
    refine ⟨τ, Er_of ?_, hpo⟩
    show Wq none 58 0 [some (.ref (2 : Nat)), none, none] [] (rS ρ (p, 0, 0)) _
    have hw : psWo true (p, 0, 0) = (p + 1, 0, p) := rfl
    simp only [w58_0, w58_1, w58_2, w58_5, w58_8, w58_11, w58_12, w58_15, w58_16, w58_19, w58_20, w58_21, w58_22, w58_24, w58_26, w58_29, w58_30, w58_33, w58_34, w58_37, w58_40, w58_41, w58_44, w58_45, w58_46, w58_48, w58_51, w58_54, w58_55, w58_58, w58_59, w58_62, w58_64, w58_67, w58_68, w58_69, w58_70, w58_72, w58_75, w58_76, w58_79, w58_80, w58_81, w58_82, w58_85, w58_86, w58_86i, w58_87, w58_90, w58_91, w58_92, w58_95, w58_98, w58_101, w58_102, w58_104, w58_107, ks_2, kP, e5, e4, e, z, c_w1 b0 (by omega), hw, rS_b, hr, ↓reduceIte, Option.toList_some, Option.toList_none, List.cons_append, List.nil_append, and_self]
  · rw [if_neg z]
    have b1 := bS_wo (ok := false) b0
    have b2 := bS_sg (tx := tx) (ch := 59) hL b1
    have hw : psWo false (p, 0, 0) = (p + 1, 3, p) := rfl
    have ew : (psSg L tx 59 (p + 1, 3, p)).2 = (3, p) := sg_w (by omega)
    have hst : Wq none 58 0 [some (.ref (2 : Nat)), none, none] [] (rS ρ (p, 0, 0)) (fun r' σ2 => r' = none ∧ σ2 = rS ρ (psSg L tx 59 (psWo false (p, 0, 0)))) := by
      have h1 : ¬ nI 12 ≤ nI 0 := nI_ge (by omega) (by omega)
      have h3 : ¬ nI 3 = nI 0 := by decide
      simp only [w58_0, w58_1, w58_2, w58_5, w58_8, w58_11, w58_12, w58_15, w58_16, w58_19, w58_20, w58_21, w58_22, w58_23, w58_24, w58_26, w58_29, w58_30, w58_33, w58_34, w58_37, w58_40, w58_41, w58_44, w58_45, w58_46, w58_48, w58_51, w58_54, w58_55, w58_58, w58_59, w58_62, w58_64, w58_67, w58_68, w58_69, w58_70, w58_72, w58_75, w58_76, w58_79, w58_80, w58_81, w58_82, w58_85, w58_86, w58_86i, w58_87, w58_90, w58_91, w58_92, w58_95, w58_98, w58_101, w58_102, w58_104, w58_107, ks_2, kP, e5, e4, e, z, c_w0 b0 (by omega), h1, nI_ne1, rS_3, show (psWo false (p, 0, 0)).2.1 = 3 from rfl, h3, c_sg hT b1 (by omega), ↓reduceIte, Option.toList_some, Option.toList_none, List.cons_append, List.nil_append, and_self]
    refine ⟨_, Er_of hst, ρ, (psSg L tx 59 (p + 1, 3, p)).1, ?_, by have := b2.1; rw [hw] at this; omega, fun _ _ _ _ => rfl, hC.1.2.1, fun z => absurd (show (3 : Nat) = 0 from z) (by omega)⟩
    rw [hw]
    exact congrArg (rS ρ) (Prod.ext rfl ew)
end CM
