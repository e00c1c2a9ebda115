/-! the text: the class's clauses -/
def bS (k : Nat) (s : Nat × Nat × Nat) : Prop := s.1 ≤ 240 + k ∧ s.2.1 ≤ 3
section CB
variable {L : Nat} {tx : Nat → Nat} {ρ : dm_G} {D k : Nat} {rd : Nat → Nat} {s : Nat × Nat × Nat} {Q : Option Value → dm_G → Prop}
theorem kN_3 {l m p : Nat} : kN L tx l m p ≤ 2 := by
  unfold kN
  split
  · omega
  · split <;> omega
theorem kN_ok {l m p : Nat} (h : kN L tx l m p = 0) : ¬ nuE L tx p = skB L tx p ∧ nuE L tx p - skB L tx p ≤ 3 ∧ l ≤ nuV L tx p ∧ nuV L tx p ≤ m := by
  unfold kN at h
  by_cases z : nuE L tx p = skB L tx p
  · rw [if_pos z] at h; omega
  · rw [if_neg z] at h
    by_cases y : 3 < nuE L tx p - skB L tx p ∨ nuV L tx p < l ∨ m < nuV L tx p
    · rw [if_pos y] at h; omega
    · exact ⟨z, by omega, by omega, by omega⟩
theorem nu_z {l m : Nat} (h : (psNu L tx l m s).2.1 = 0) : s.2.1 = 0 ∧ kN L tx l m s.1 = 0 := by
  have h : (if s.2.1 = 0 then kN L tx l m s.1 else s.2.1) = 0 := h
  by_cases z : s.2.1 = 0
  · rw [if_pos z] at h; exact ⟨z, h⟩
  · rw [if_neg z] at h; omega
theorem sg_z {ch : Nat} (h : (psSg L tx ch s).2.1 = 0) : s.2.1 = 0 ∧ ltI L tx (skB L tx s.1) = nI ch := by
  have h : (if s.2.1 = 0 then (if ltI L tx (skB L tx s.1) = nI ch then 0 else 1) else s.2.1) = 0 := h
  by_cases z : s.2.1 = 0
  · rw [if_pos z] at h
    by_cases y : ltI L tx (skB L tx s.1) = nI ch
    · exact ⟨z, y⟩
    · rw [if_neg y] at h; omega
  · rw [if_neg z] at h; omega
theorem wo_z {ok : Bool} (h : (psWo ok s).2.1 = 0) : s.2.1 = 0 ∧ ok = true := by
  have h : (if s.2.1 = 0 then (if ok = true then 0 else 3) else s.2.1) = 0 := h
  by_cases z : s.2.1 = 0
  · rw [if_pos z] at h
    by_cases y : ok = true
    · exact ⟨z, y⟩
    · rw [if_neg y] at h; omega
  · rw [if_neg z] at h; omega
theorem bS_nu {l m : Nat} (hL : L ≤ 240) (h : bS k s) : bS k (psNu L tx l m s) := by
  obtain ⟨h1, h2⟩ := h
  have h3 := nuE_le (L := L) (tx := tx) s.1
  have h4 := skB_le (L := L) (tx := tx) s.1
  have h5 := kN_3 (L := L) (tx := tx) (l := l) (m := m) (p := s.1)
  refine ⟨?_, ?_⟩
  · show nuE L tx s.1 ≤ 240 + k
    omega
  · show (if s.2.1 = 0 then kN L tx l m s.1 else s.2.1) ≤ 3
    split <;> omega
theorem bS_wo {ok : Bool} (h : bS k s) : bS (k + 1) (psWo ok s) := by
  obtain ⟨h1, h2⟩ := h
  refine ⟨?_, ?_⟩
  · show s.1 + 1 ≤ 240 + (k + 1)
    omega
  · show (if s.2.1 = 0 then (if ok = true then 0 else 3) else s.2.1) ≤ 3
    split
    · split <;> omega
    · omega
theorem bS_sg {ch : Nat} (hL : L ≤ 240) (h : bS k s) : bS (k + 1) (psSg L tx ch s) := by
  obtain ⟨h1, h2⟩ := h
  have h4 := skB_le (L := L) (tx := tx) s.1
  refine ⟨?_, ?_⟩
  · show skB L tx s.1 + 1 ≤ 240 + (k + 1)
    omega
  · show (if s.2.1 = 0 then (if ltI L tx (skB L tx s.1) = nI ch then 0 else 1) else s.2.1) ≤ 3
    split
    · split <;> omega
    · omega
theorem c_nu {l m : Nat} (hT : tXt L tx ρ) (hb : bS k s) (hk : k ≤ 100) (hl : l ≤ 1000) (hm : m ≤ 1000) : Cq 61 [(.ref (2 : Nat)), .int (nI l), .int (nI m)] (rS ρ s) Q = Q (some (.int (nI (nuV L tx s.1)))) (rS ρ (psNu L tx l m s)) := c_numb hT (by have := hb.1; omega) hb.2 hl hm
theorem c_sg {ch : Nat} (hT : tXt L tx ρ) (hb : bS k s) (hk : k ≤ 100) : Cq 60 [(.ref (2 : Nat)), .int (nI ch)] (rS ρ s) Q = Q none (rS ρ (psSg L tx ch s)) := c_takeSign hT (by have := hb.1; omega) hb.2
theorem c_w1 (hb : bS k s) (hk : k ≤ 100) : Cq 59 [(.ref (2 : Nat)), .int (nI 1)] (rS ρ s) Q = Q none (rS ρ (psWo true s)) := c_takeWord (ok := true) (by have := hb.1; omega) hb.2
theorem c_w0 (hb : bS k s) (hk : k ≤ 100) : Cq 59 [(.ref (2 : Nat)), .int (nI 0)] (rS ρ s) Q = Q none (rS ρ (psWo false s)) := c_takeWord (ok := false) (by have := hb.1; omega) hb.2
theorem rS_2 : rS ρ s 2 2 = .int (nI s.1) := rfl
theorem rS_3 : rS ρ s 2 3 = .int (nI s.2.1) := rfl
theorem rS_4 : rS ρ s 2 4 = .int (fiO s.2.1 s.2.2) := rfl
theorem rS_out {a b : Nat} (h : ¬ (a = 2 ∧ 1 < b ∧ b < 5)) : rS ρ s a b = ρ a b := rdS_out h
theorem rS_up {a j : Nat} {v : Value} (h : ¬ a = 2) : dm_up (rS ρ s) a j v = rS (dm_up ρ a j v) s := by
  funext x y
  unfold rS rdS
  simp only [up_get]
  by_cases h1 : x = a ∧ y = j
  · rw [if_pos h1, if_neg (by omega), if_neg (by omega), if_neg (by omega), if_pos h1]
  · rw [if_neg h1, if_neg h1]
theorem adX_rS {t s1 a b c : Nat} (hD : 4 ≤ D) : adX D t s1 a b c (rS ρ s) = rS (adX D t s1 a b c ρ) s := by
  unfold adX scF
  rw [rS_up (by omega), rS_up (by omega), rS_up (by omega), rS_up (by omega), rS_up (by omega), rS_up (by omega)]
theorem adG_rS {t a b c : Nat} (hD : 4 ≤ D) : adG D t a b c (rS ρ s) = rS (adG D t a b c ρ) s := by
  unfold adG
  rw [rS_up (by omega), rS_up (by omega), rS_up (by omega), rS_up (by omega)]
theorem adE_rS {t a b : Nat} (hD : 4 ≤ D) : adE D t a b (rS ρ s) = rS (adE D t a b ρ) s := by
  unfold adE
  rw [rS_up (by omega), rS_up (by omega), rS_up (by omega)]
theorem adM_rS {t a : Nat} (hD : 4 ≤ D) : adM D t a (rS ρ s) = rS (adM D t a ρ) s := by
  unfold adM
  rw [rS_up (by omega), rS_up (by omega)]
theorem scF_rS {x s1 a b c : Nat} (hD : 4 ≤ D) : scF D x s1 a b c (rS ρ s) = rS (scF D x s1 a b c ρ) s := by
  unfold scF
  rw [rS_up (by omega), rS_up (by omega), rS_up (by omega), rS_up (by omega), rS_up (by omega)]
theorem scL_rS (hD : 4 ≤ D) : ∀ N, scL D N (rS ρ s) = rS (scL D N ρ) s := by
  intro N
  induction N with
  | zero => rfl
  | succ N ih =>
    show scF D N 0 N N N (scL D N (rS ρ s)) = rS (scF D N 0 N N N (scL D N ρ)) s
    rw [ih, scF_rS hD]
theorem swB_rS {N : Nat} (hD : 4 ≤ D) : swB D N (rS ρ s) = rS (swB D N ρ) s := by
  unfold swB
  rw [rS_up (by omega), rS_up (by omega), rS_up (by omega), rS_up (by omega), rS_up (by omega), rS_up (by omega)]
theorem CR_rS (hD : 4 ≤ D) : CR (rS ρ s) D = CR ρ D := by
  unfold CR
  rw [rS_out (by omega), rS_out (by omega), rS_out (by omega), rS_out (by omega), rS_out (by omega), rS_out (by omega), rS_out (by omega), rS_out (by omega), rS_out (by omega)]
theorem DC_rS (hD : 4 ≤ D) (h : DC ρ D rd) : DC (rS ρ s) D rd := ⟨CC_of (fun i hi => funext fun b => rS_out (by omega)) h.1, (rS_out (by omega)).trans h.2⟩
end CB
/-- what a clause leaves in the class -/
def CPo (D : Nat) (σ : dm_G) (r : (Nat × Nat × Nat) × (Nat → Nat)) (τ : dm_G) : Prop := ∃ ρ p, τ = rS ρ (p, r.1.2) ∧ p ≤ 300 ∧ (∀ a b, ¬ (D ≤ a ∧ a ≤ D + 9) → ¬ (a = 2 ∧ 1 < b ∧ b < 5) → ρ a b = σ a b) ∧ CR ρ D ∧ (r.1.2.1 = 0 → p = r.1.1 ∧ DC ρ D r.2)
/-- the clauses, purely: the fault and where, or the next place and the city told so far -/
def tN (L : Nat) (tx : Nat → Nat) (rd : Nat → Nat) (p : Nat) : (Nat × Nat × Nat) × (Nat → Nat) := (psSg L tx 59 (psNu L tx 1 8 (psWo (decide (rd 0 = 0)) (p, 0, 0))), cwN (nuV L tx (p + 1)))
section CD
variable {L : Nat} {tx : Nat → Nat} {ρ : dm_G} {D : Nat} {rd : Nat → Nat}
theorem CPo_f {r : (Nat × Nat × Nat) × (Nat → Nat)} {k : Nat} (hC : CR ρ D) (hb : bS k r.1) (hk : k ≤ 60) (hz : ¬ r.1.2.1 = 0) : CPo D ρ r (rS ρ r.1) := ⟨ρ, r.1.1, rfl, by have := hb.1; omega, fun _ _ _ _ => rfl, hC, fun z => absurd z hz⟩
theorem c_readN {p : Nat} (hT : tXt L tx ρ) (hC : DC ρ D rd) (hD : D = 4 ∨ D = 14) (h5 : ρ 2 5 = .ref D) (hp : p ≤ 240) (h0 : rd 0 ≤ 8) : ∃ τ, Er 54 [(.ref (2 : Nat))] (rS ρ (p, 0, 0)) none τ ∧ CPo D ρ (tN L tx rd p) τ := by
  have hD4 : 4 ≤ D := (by omega); have hL := hT.1; have b0 : bS 0 (p, 0, 0) := ⟨hp, Nat.zero_le _⟩; have e5 : ∀ s, rS ρ s 2 5 = .ref D := fun s => (rS_out (by omega)).trans h5; have e0 : ∀ s, rS ρ s D 0 = .int (nI (rd 0)) := fun s => (rS_out (by omega)).trans hC.1.2.2.1.1; have e1 : ∀ s, rS ρ s D 1 = .int (nI (rd 1)) := fun s => (rS_out (by omega)).trans hC.2; have e2 : ∀ s, rS ρ s D 2 = .int (nI (rd 2)) := fun s => (rS_out (by omega)).trans hC.1.2.2.1.2.1; have e3 : ∀ s, rS ρ s D 3 = .int (nI (rd 3)) := fun s => (rS_out (by omega)).trans hC.1.2.2.1.2.2.1; have e4 : ∀ s, rS ρ s D 4 = .int (nI (rd 4)) := fun s => (rS_out (by omega)).trans hC.1.2.2.1.2.2.2; have kP := hC.1.1.1; have hCR : ∀ s, CR (rS ρ s) D := fun s => (by rw [CR_rS hD4]; exact hC.1.2.1)
  have b1 := bS_wo (ok := decide (rd 0 = 0)) b0
  have b2 := bS_nu (tx := tx) (l := 1) (m := 8) hL b1
  have b3 := bS_sg (tx := tx) (ch := 59) hL b2
  have eT : (tN L tx rd p).1 = psSg L tx 59 (psNu L tx 1 8 (psWo (decide (rd 0 = 0)) (p, 0, 0))) := rfl
  have eR : (tN L tx rd p).2 = cwN (nuV L tx (p + 1)) := rfl
  have b4 := b3
  rw [← eT] at b4
  have b5 := b4.2
  have ez : nI (tN L tx rd p).1.2.1 = nI 0 ↔ (tN L tx rd p).1.2.1 = 0 := nI_eq (by omega) (by omega)
  have run : ∀ Q, Wq none 54 0 [some (.ref (2 : Nat)), none] [] (rS ρ (p, 0, 0)) Q = Wq none 54 37 [some (.ref (2 : Nat)), some (.int (nI (nuV L tx (p + 1))))] [.int (nI (tN L tx rd p).1.2.1)] (rS ρ (tN L tx rd p).1) Q := by
    intro Q
    rw [eT]
    by_cases z : rd 0 = 0
    · have hz : decide (rd 0 = 0) = true := decide_eq_true z
      rw [hz] at b1 b2 b3 ⊢
      simp only [w54_0, w54_1, w54_2, w54_5, w54_8, w54_11, w54_12, w54_15, w54_16, w54_19, w54_20, w54_21, w54_23, w54_26, w54_27, w54_28, w54_30, w54_33, w54_34, w54_40, w54_41, w54_44, w54_45, w54_48, ks_2, kP, e5, e0, z, c_w1 b0 (by omega), c_nu (l := 1) (m := 8) hT b1 (by omega) (by omega) (by omega), c_sg hT b2 (by omega), rS_3, ↓reduceIte, Option.toList_some, Option.toList_none, List.cons_append, List.nil_append]
      rfl
    · have hz : decide (rd 0 = 0) = false := decide_eq_false z
      have e : nI (rd 0) = nI 0 ↔ rd 0 = 0 := nI_eq (by omega) (by omega)
      rw [hz] at b1 b2 b3 ⊢
      simp only [w54_0, w54_1, w54_2, w54_5, w54_8, w54_11, w54_12, w54_15, w54_16, w54_19, w54_20, w54_21, w54_23, w54_26, w54_27, w54_28, w54_30, w54_33, w54_34, w54_40, w54_41, w54_44, w54_45, w54_48, ks_2, kP, e5, e0, e, z, c_w0 b0 (by omega), c_nu (l := 1) (m := 8) hT b1 (by omega) (by omega) (by omega), c_sg hT b2 (by omega), rS_3, ↓reduceIte, Option.toList_some, Option.toList_none, List.cons_append, List.nil_append]
      rfl
  by_cases y : (tN L tx rd p).1.2.1 = 0
  · have y1 := sg_z (eT ▸ y)
    have y2 := nu_z y1.1
    have y3 := wo_z y2.1
    have yk := kN_ok y2.2
    have hv : nuV L tx (p + 1) ≤ 8 := yk.2.2.2
    refine ⟨rS (scL D (nuV L tx (p + 1)) (swB D (nuV L tx (p + 1)) ρ)) (tN L tx rd p).1, Er_of ?_, _, (tN L tx rd p).1.1, rfl, by have := b4.1; omega, fun a b za zb => (scL_o (by omega) _).trans (swB_o (by omega)), CR_o (fun j hj => (scL_o (by omega) _).trans (swB_o (by omega))) hC.1.2.1, fun _ => ⟨rfl, DC_sw hC.1.1 hC.1.2.1 hv⟩⟩
    show Wq none 54 0 [some (.ref (2 : Nat)), none] [] (rS ρ (p, 0, 0)) _
    rw [run, y]
    simp only [w54_0, w54_1, w54_2, w54_5, w54_8, w54_11, w54_12, w54_15, w54_16, w54_19, w54_20, w54_21, w54_23, w54_26, w54_27, w54_28, w54_30, w54_33, w54_34, w54_37, w54_40, w54_41, w54_44, w54_45, w54_48, ks_2, kP, e5, c_swN hC.1.1 (hCR _) hv, scL_rS hD4, swB_rS hD4, ↓reduceIte, Option.toList_some, Option.toList_none, List.cons_append, List.nil_append, and_self]
  · refine ⟨rS ρ (tN L tx rd p).1, Er_of ?_, CPo_f hC.1.2.1 b4 (by omega) y⟩
    show Wq none 54 0 [some (.ref (2 : Nat)), none] [] (rS ρ (p, 0, 0)) _
    rw [run]
    simp only [w54_0, w54_1, w54_2, w54_5, w54_8, w54_11, w54_12, w54_15, w54_16, w54_19, w54_20, w54_21, w54_23, w54_26, w54_27, w54_28, w54_30, w54_33, w54_34, w54_37, w54_40, w54_41, w54_44, w54_45, w54_48, ks_2, ez, y, ↓reduceIte, Option.toList_some, Option.toList_none, List.cons_append, List.nil_append, and_self]
end CD
def tX (L : Nat) (tx : Nat → Nat) (rd : Nat → Nat) (p : Nat) : (Nat × Nat × Nat) × (Nat → Nat) := (psSg L tx 59 (psNu L tx 0 (rd 0 - 1) (psNu L tx 0 (rd 0 - 1) (psNu L tx 0 (rd 0 - 1) (psNu L tx 0 5 (psWo (decide (rd 1 < rd 0)) (p, 0, 0)))))), rdX rd (nuV L tx (p + 1)) (nuV L tx (nuE L tx (p + 1))) (nuV L tx (nuE L tx (nuE L tx (p + 1)))) (nuV L tx (nuE L tx (nuE L tx (nuE L tx (p + 1))))))
def tG (L : Nat) (tx : Nat → Nat) (rd : Nat → Nat) (p : Nat) : (Nat × Nat × Nat) × (Nat → Nat) := (psSg L tx 59 (psNu L tx 1 (2 ^ rd 0 - 1) (psNu L tx 0 99 (psNu L tx 0 (rd 0 - 1) (psWo (decide (rd 2 < 6)) (p, 0, 0))))), rdG rd (nuV L tx (p + 1)) (nuV L tx (nuE L tx (p + 1))) (nuV L tx (nuE L tx (nuE L tx (p + 1)))))
def tE (L : Nat) (tx : Nat → Nat) (rd : Nat → Nat) (p : Nat) : (Nat × Nat × Nat) × (Nat → Nat) := (psSg L tx 59 (psNu L tx 0 (rd 0 - 1) (psNu L tx 0 (rd 0 - 1) (psWo (decide (rd 3 < 6)) (p, 0, 0)))), rdE rd (nuV L tx (p + 1)) (nuV L tx (nuE L tx (p + 1))))
section CE
variable {L : Nat} {tx : Nat → Nat} {ρ : dm_G} {D : Nat} {rd : Nat → Nat}
theorem c_readX {p : Nat} (hT : tXt L tx ρ) (hC : DC ρ D rd) (hD : D = 4 ∨ D = 14) (h5 : ρ 2 5 = .ref D) (hp : p ≤ 240) (h0 : rd 0 ≤ 8) (hp0 : 0 < rd 0) (h1 : rd 1 ≤ rd 0) : ∃ τ, Er 55 [(.ref (2 : Nat))] (rS ρ (p, 0, 0)) none τ ∧ CPo D ρ (tX L tx rd p) τ := by
  have hD4 : 4 ≤ D := (by omega); have hL := hT.1; have b0 : bS 0 (p, 0, 0) := ⟨hp, Nat.zero_le _⟩; have e5 : ∀ s, rS ρ s 2 5 = .ref D := fun s => (rS_out (by omega)).trans h5; have e0 : ∀ s, rS ρ s D 0 = .int (nI (rd 0)) := fun s => (rS_out (by omega)).trans hC.1.2.2.1.1; have e1 : ∀ s, rS ρ s D 1 = .int (nI (rd 1)) := fun s => (rS_out (by omega)).trans hC.2; have e2 : ∀ s, rS ρ s D 2 = .int (nI (rd 2)) := fun s => (rS_out (by omega)).trans hC.1.2.2.1.2.1; have e3 : ∀ s, rS ρ s D 3 = .int (nI (rd 3)) := fun s => (rS_out (by omega)).trans hC.1.2.2.1.2.2.1; have e4 : ∀ s, rS ρ s D 4 = .int (nI (rd 4)) := fun s => (rS_out (by omega)).trans hC.1.2.2.1.2.2.2; have kP := hC.1.1.1; have hCR : ∀ s, CR (rS ρ s) D := fun s => (by rw [CR_rS hD4]; exact hC.1.2.1)
  have b1 := bS_wo (ok := decide (rd 1 < rd 0)) b0
  have b2 := bS_nu (tx := tx) (l := 0) (m := 5) hL b1
  have b3 := bS_nu (tx := tx) (l := 0) (m := rd 0 - 1) hL b2
  have b4 := bS_nu (tx := tx) (l := 0) (m := rd 0 - 1) hL b3
  have b5 := bS_nu (tx := tx) (l := 0) (m := rd 0 - 1) hL b4
  have b6 := bS_sg (tx := tx) (ch := 59) hL b5
  have eT : (tX L tx rd p).1 = psSg L tx 59 (psNu L tx 0 (rd 0 - 1) (psNu L tx 0 (rd 0 - 1) (psNu L tx 0 (rd 0 - 1) (psNu L tx 0 5 (psWo (decide (rd 1 < rd 0)) (p, 0, 0)))))) := rfl
  have b7 := b6
  rw [← eT] at b7
  have b8 := b7.2
  have ez : nI (tX L tx rd p).1.2.1 = nI 0 ↔ (tX L tx rd p).1.2.1 = 0 := nI_eq (by omega) (by omega)
  have es : nI (rd 0) - nI 1 = nI (rd 0 - 1) := pk_sub (by omega)
  have e : nI (rd 0) ≤ nI (rd 1) ↔ rd 0 ≤ rd 1 := nI_leI (by omega) (by omega)
  have run : ∀ Q, Wq none 55 0 [some (.ref (2 : Nat)), none, none, none, none] [] (rS ρ (p, 0, 0)) Q = Wq none 55 89 [some (.ref (2 : Nat)), some (.int (nI (nuV L tx (p + 1)))), some (.int (nI (nuV L tx (nuE L tx (p + 1))))), some (.int (nI (nuV L tx (nuE L tx (nuE L tx (p + 1)))))), some (.int (nI (nuV L tx (nuE L tx (nuE L tx (nuE L tx (p + 1)))))))] [.int (nI (tX L tx rd p).1.2.1)] (rS ρ (tX L tx rd p).1) Q := by
    intro Q
    rw [eT]
    by_cases z : rd 1 < rd 0
    · have hz : decide (rd 1 < rd 0) = true := decide_eq_true z
      have z' : ¬ rd 0 ≤ rd 1 := by omega
      rw [hz] at b1 b2 b3 b4 b5 b6 ⊢
      simp only [w55_0, w55_1, w55_2, w55_5, w55_8, w55_9, w55_12, w55_15, w55_18, w55_19, w55_22, w55_23, w55_26, w55_27, w55_28, w55_29, w55_32, w55_33, w55_34, w55_35, w55_36, w55_39, w55_42, w55_43, w55_44, w55_47, w55_48, w55_49, w55_50, w55_51, w55_54, w55_57, w55_58, w55_59, w55_62, w55_63, w55_64, w55_65, w55_66, w55_69, w55_72, w55_73, w55_74, w55_77, w55_79, w55_80, w55_82, w55_85, w55_86, w55_92, w55_93, w55_96, w55_97, w55_98, w55_99, w55_101, w55_104, ks_2, kP, e5, e0, e1, e, z', es, c_w1 b0 (by omega), c_nu (l := 0) (m := 5) hT b1 (by omega) (by omega) (by omega), c_nu (l := 0) (m := rd 0 - 1) hT b2 (by omega) (by omega) (by omega), c_nu (l := 0) (m := rd 0 - 1) hT b3 (by omega) (by omega) (by omega), c_nu (l := 0) (m := rd 0 - 1) hT b4 (by omega) (by omega) (by omega), c_sg hT b5 (by omega), rS_3, ↓reduceIte, Option.toList_some, Option.toList_none, List.cons_append, List.nil_append]
      rfl
    · have hz : decide (rd 1 < rd 0) = false := decide_eq_false z
      have z' : rd 0 ≤ rd 1 := by omega
      rw [hz] at b1 b2 b3 b4 b5 b6 ⊢
      simp only [w55_0, w55_1, w55_2, w55_5, w55_8, w55_9, w55_12, w55_15, w55_18, w55_19, w55_22, w55_23, w55_26, w55_27, w55_28, w55_29, w55_32, w55_33, w55_34, w55_35, w55_36, w55_39, w55_42, w55_43, w55_44, w55_47, w55_48, w55_49, w55_50, w55_51, w55_54, w55_57, w55_58, w55_59, w55_62, w55_63, w55_64, w55_65, w55_66, w55_69, w55_72, w55_73, w55_74, w55_77, w55_79, w55_80, w55_82, w55_85, w55_86, w55_92, w55_93, w55_96, w55_97, w55_98, w55_99, w55_101, w55_104, ks_2, kP, e5, e0, e1, e, z', es, c_w0 b0 (by omega), c_nu (l := 0) (m := 5) hT b1 (by omega) (by omega) (by omega), c_nu (l := 0) (m := rd 0 - 1) hT b2 (by omega) (by omega) (by omega), c_nu (l := 0) (m := rd 0 - 1) hT b3 (by omega) (by omega) (by omega), c_nu (l := 0) (m := rd 0 - 1) hT b4 (by omega) (by omega) (by omega), c_sg hT b5 (by omega), rS_3, ↓reduceIte, Option.toList_some, Option.toList_none, List.cons_append, List.nil_append]
      rfl
  by_cases y : (tX L tx rd p).1.2.1 = 0
  · have y1 := sg_z (eT ▸ y)
    have y2 := nu_z y1.1
    have y3 := nu_z y2.1
    have y4 := nu_z y3.1
    have y5 := nu_z y4.1
    have y6 := wo_z y5.1
    have hx : rd 1 < rd 0 := of_decide_eq_true y6.2
    have v2 : nuV L tx (nuE L tx (nuE L tx (nuE L tx (p + 1)))) ≤ rd 0 - 1 := (kN_ok y2.2).2.2.2
    have v3 : nuV L tx (nuE L tx (nuE L tx (p + 1))) ≤ rd 0 - 1 := (kN_ok y3.2).2.2.2
    have v4 : nuV L tx (nuE L tx (p + 1)) ≤ rd 0 - 1 := (kN_ok y4.2).2.2.2
    refine ⟨rS (adX D (rd 1) (nuV L tx (p + 1)) (nuV L tx (nuE L tx (p + 1))) (nuV L tx (nuE L tx (nuE L tx (p + 1)))) (nuV L tx (nuE L tx (nuE L tx (nuE L tx (p + 1))))) ρ) (tX L tx rd p).1, Er_of ?_, _, (tX L tx rd p).1.1, rfl, by have := b7.1; omega, fun a b za zb => ?_, (DC_aX hC (by omega) h0).1.2.1, fun _ => ⟨rfl, DC_aX hC (by omega) h0⟩⟩
    · show Wq none 55 0 [some (.ref (2 : Nat)), none, none, none, none] [] (rS ρ (p, 0, 0)) _
      rw [run, y]
      simp only [w55_0, w55_1, w55_2, w55_5, w55_8, w55_9, w55_12, w55_15, w55_18, w55_19, w55_22, w55_23, w55_26, w55_27, w55_28, w55_29, w55_32, w55_33, w55_34, w55_35, w55_36, w55_39, w55_42, w55_43, w55_44, w55_47, w55_48, w55_49, w55_50, w55_51, w55_54, w55_57, w55_58, w55_59, w55_62, w55_63, w55_64, w55_65, w55_66, w55_69, w55_72, w55_73, w55_74, w55_77, w55_79, w55_80, w55_82, w55_85, w55_86, w55_89, w55_92, w55_93, w55_96, w55_97, w55_98, w55_99, w55_101, w55_104, ks_2, kP, e5, c_addX (DC_rS hD4 hC) (show rd 1 < 8 by omega) (show nuV L tx (nuE L tx (p + 1)) < 8 by omega) (show nuV L tx (nuE L tx (nuE L tx (p + 1))) < 8 by omega) (show nuV L tx (nuE L tx (nuE L tx (nuE L tx (p + 1)))) < 8 by omega), adX_rS hD4, ↓reduceIte, Option.toList_some, Option.toList_none, List.cons_append, List.nil_append, and_self]
    · unfold adX
      rw [up_get, if_neg (by omega), scF_o (by omega)]
  · refine ⟨rS ρ (tX L tx rd p).1, Er_of ?_, CPo_f hC.1.2.1 b7 (by omega) y⟩
    show Wq none 55 0 [some (.ref (2 : Nat)), none, none, none, none] [] (rS ρ (p, 0, 0)) _
    rw [run]
    simp only [w55_0, w55_1, w55_2, w55_5, w55_8, w55_9, w55_12, w55_15, w55_18, w55_19, w55_22, w55_23, w55_26, w55_27, w55_28, w55_29, w55_32, w55_33, w55_34, w55_35, w55_36, w55_39, w55_42, w55_43, w55_44, w55_47, w55_48, w55_49, w55_50, w55_51, w55_54, w55_57, w55_58, w55_59, w55_62, w55_63, w55_64, w55_65, w55_66, w55_69, w55_72, w55_73, w55_74, w55_77, w55_79, w55_80, w55_82, w55_85, w55_86, w55_89, w55_92, w55_93, w55_96, w55_97, w55_98, w55_99, w55_101, w55_104, ks_2, ez, y, ↓reduceIte, Option.toList_some, Option.toList_none, List.cons_append, List.nil_append, and_self]
theorem c_readG {p : Nat} (hT : tXt L tx ρ) (hC : DC ρ D rd) (hD : D = 4 ∨ D = 14) (h5 : ρ 2 5 = .ref D) (hp : p ≤ 240) (h0 : rd 0 ≤ 8) (hp0 : 0 < rd 0) (h2 : rd 2 ≤ 6) : ∃ τ, Er 56 [(.ref (2 : Nat))] (rS ρ (p, 0, 0)) none τ ∧ CPo D ρ (tG L tx rd p) τ := by
  have hD4 : 4 ≤ D := (by omega); have hL := hT.1; have b0 : bS 0 (p, 0, 0) := ⟨hp, Nat.zero_le _⟩; have e5 : ∀ s, rS ρ s 2 5 = .ref D := fun s => (rS_out (by omega)).trans h5; have e0 : ∀ s, rS ρ s D 0 = .int (nI (rd 0)) := fun s => (rS_out (by omega)).trans hC.1.2.2.1.1; have e1 : ∀ s, rS ρ s D 1 = .int (nI (rd 1)) := fun s => (rS_out (by omega)).trans hC.2; have e2 : ∀ s, rS ρ s D 2 = .int (nI (rd 2)) := fun s => (rS_out (by omega)).trans hC.1.2.2.1.2.1; have e3 : ∀ s, rS ρ s D 3 = .int (nI (rd 3)) := fun s => (rS_out (by omega)).trans hC.1.2.2.1.2.2.1; have e4 : ∀ s, rS ρ s D 4 = .int (nI (rd 4)) := fun s => (rS_out (by omega)).trans hC.1.2.2.1.2.2.2; have kP := hC.1.1.1; have hCR : ∀ s, CR (rS ρ s) D := fun s => (by rw [CR_rS hD4]; exact hC.1.2.1)
  have hpw : 2 ^ rd 0 ≤ 2 ^ 8 := Nat.pow_le_pow_right (by omega) h0
  have hpw1 : 0 < 2 ^ rd 0 := Nat.two_pow_pos _
  have b1 := bS_wo (ok := decide (rd 2 < 6)) b0
  have b2 := bS_nu (tx := tx) (l := 0) (m := rd 0 - 1) hL b1
  have b3 := bS_nu (tx := tx) (l := 0) (m := 99) hL b2
  have b4 := bS_nu (tx := tx) (l := 1) (m := 2 ^ rd 0 - 1) hL b3
  have b6 := bS_sg (tx := tx) (ch := 59) hL b4
  have eT : (tG L tx rd p).1 = psSg L tx 59 (psNu L tx 1 (2 ^ rd 0 - 1) (psNu L tx 0 99 (psNu L tx 0 (rd 0 - 1) (psWo (decide (rd 2 < 6)) (p, 0, 0))))) := rfl
  have b7 := b6
  rw [← eT] at b7
  have b8 := b7.2
  have ez : nI (tG L tx rd p).1.2.1 = nI 0 ↔ (tG L tx rd p).1.2.1 = 0 := nI_eq (by omega) (by omega)
  have es : nI (rd 0) - nI 1 = nI (rd 0 - 1) := pk_sub (by omega)
  have ew : nI (2 ^ rd 0) - nI 1 = nI (2 ^ rd 0 - 1) := pk_sub hpw1
  have e : nI 6 ≤ nI (rd 2) ↔ 6 ≤ rd 2 := nI_leI (by omega) (by omega)
  have run : ∀ Q, Wq none 56 0 [some (.ref (2 : Nat)), none, none, none] [] (rS ρ (p, 0, 0)) Q = Wq none 56 71 [some (.ref (2 : Nat)), some (.int (nI (nuV L tx (p + 1)))), some (.int (nI (nuV L tx (nuE L tx (p + 1))))), some (.int (nI (nuV L tx (nuE L tx (nuE L tx (p + 1))))))] [.int (nI (tG L tx rd p).1.2.1)] (rS ρ (tG L tx rd p).1) Q := by
    intro Q
    rw [eT]
    by_cases z : rd 2 < 6
    · have hz : decide (rd 2 < 6) = true := decide_eq_true z
      have z' : ¬ 6 ≤ rd 2 := by omega
      rw [hz] at b1 b2 b3 b4 b6 ⊢
      simp only [w56_0, w56_1, w56_2, w56_5, w56_8, w56_10, w56_13, w56_14, w56_17, w56_18, w56_21, w56_22, w56_23, w56_24, w56_27, w56_30, w56_31, w56_32, w56_35, w56_36, w56_37, w56_38, w56_40, w56_43, w56_44, w56_45, w56_46, w56_47, w56_48, w56_51, w56_54, w56_55, w56_56, w56_57, w56_60, w56_61, w56_62, w56_64, w56_67, w56_68, w56_74, w56_75, w56_78, w56_79, w56_80, w56_81, w56_84, ks_2, kP, e5, e0, e2, e, z', es, nI_shl 1 (show rd 0 < 32 by omega), Nat.one_shiftLeft, ew, c_w1 b0 (by omega), c_nu (l := 0) (m := rd 0 - 1) hT b1 (by omega) (by omega) (by omega), c_nu (l := 0) (m := 99) hT b2 (by omega) (by omega) (by omega), c_nu (l := 1) (m := 2 ^ rd 0 - 1) hT b3 (by omega) (by omega) (by omega), c_sg hT b4 (by omega), rS_3, ↓reduceIte, Option.toList_some, Option.toList_none, List.cons_append, List.nil_append]
      rfl
    · have hz : decide (rd 2 < 6) = false := decide_eq_false z
      have z' : 6 ≤ rd 2 := by omega
      rw [hz] at b1 b2 b3 b4 b6 ⊢
      simp only [w56_0, w56_1, w56_2, w56_5, w56_8, w56_10, w56_13, w56_14, w56_17, w56_18, w56_21, w56_22, w56_23, w56_24, w56_27, w56_30, w56_31, w56_32, w56_35, w56_36, w56_37, w56_38, w56_40, w56_43, w56_44, w56_45, w56_46, w56_47, w56_48, w56_51, w56_54, w56_55, w56_56, w56_57, w56_60, w56_61, w56_62, w56_64, w56_67, w56_68, w56_74, w56_75, w56_78, w56_79, w56_80, w56_81, w56_84, ks_2, kP, e5, e0, e2, e, z', es, nI_shl 1 (show rd 0 < 32 by omega), Nat.one_shiftLeft, ew, c_w0 b0 (by omega), c_nu (l := 0) (m := rd 0 - 1) hT b1 (by omega) (by omega) (by omega), c_nu (l := 0) (m := 99) hT b2 (by omega) (by omega) (by omega), c_nu (l := 1) (m := 2 ^ rd 0 - 1) hT b3 (by omega) (by omega) (by omega), c_sg hT b4 (by omega), rS_3, ↓reduceIte, Option.toList_some, Option.toList_none, List.cons_append, List.nil_append]
      rfl
  by_cases y : (tG L tx rd p).1.2.1 = 0
  · have y1 := sg_z (eT ▸ y)
    have y2 := nu_z y1.1
    have y3 := nu_z y2.1
    have y4 := nu_z y3.1
    have y6 := wo_z y4.1
    have hx : rd 2 < 6 := of_decide_eq_true y6.2
    refine ⟨rS (adG D (rd 2) (nuV L tx (p + 1)) (nuV L tx (nuE L tx (p + 1))) (nuV L tx (nuE L tx (nuE L tx (p + 1)))) ρ) (tG L tx rd p).1, Er_of ?_, _, (tG L tx rd p).1.1, rfl, by have := b7.1; omega, fun a b za zb => ?_, (DC_aG hC (by omega) h0).1.2.1, fun _ => ⟨rfl, DC_aG hC (by omega) h0⟩⟩
    · show Wq none 56 0 [some (.ref (2 : Nat)), none, none, none] [] (rS ρ (p, 0, 0)) _
      rw [run, y]
      simp only [w56_0, w56_1, w56_2, w56_5, w56_8, w56_10, w56_13, w56_14, w56_17, w56_18, w56_21, w56_22, w56_23, w56_24, w56_27, w56_30, w56_31, w56_32, w56_35, w56_36, w56_37, w56_38, w56_40, w56_43, w56_44, w56_45, w56_46, w56_47, w56_48, w56_51, w56_54, w56_55, w56_56, w56_57, w56_60, w56_61, w56_62, w56_64, w56_67, w56_68, w56_71, w56_74, w56_75, w56_78, w56_79, w56_80, w56_81, w56_84, ks_2, kP, e5, c_addG (DC_rS hD4 hC) hx, adG_rS hD4, ↓reduceIte, Option.toList_some, Option.toList_none, List.cons_append, List.nil_append, and_self]
    · unfold adG
      rw [up_get, if_neg (by omega), up_get, if_neg (by omega), up_get, if_neg (by omega), up_get, if_neg (by omega)]
  · refine ⟨rS ρ (tG L tx rd p).1, Er_of ?_, CPo_f hC.1.2.1 b7 (by omega) y⟩
    show Wq none 56 0 [some (.ref (2 : Nat)), none, none, none] [] (rS ρ (p, 0, 0)) _
    rw [run]
    simp only [w56_0, w56_1, w56_2, w56_5, w56_8, w56_10, w56_13, w56_14, w56_17, w56_18, w56_21, w56_22, w56_23, w56_24, w56_27, w56_30, w56_31, w56_32, w56_35, w56_36, w56_37, w56_38, w56_40, w56_43, w56_44, w56_45, w56_46, w56_47, w56_48, w56_51, w56_54, w56_55, w56_56, w56_57, w56_60, w56_61, w56_62, w56_64, w56_67, w56_68, w56_71, w56_74, w56_75, w56_78, w56_79, w56_80, w56_81, w56_84, ks_2, ez, y, ↓reduceIte, Option.toList_some, Option.toList_none, List.cons_append, List.nil_append, and_self]
theorem c_readE {p : Nat} (hT : tXt L tx ρ) (hC : DC ρ D rd) (hD : D = 4 ∨ D = 14) (h5 : ρ 2 5 = .ref D) (hp : p ≤ 240) (h0 : rd 0 ≤ 8) (hp0 : 0 < rd 0) (h2 : rd 2 ≤ 6) (h3 : rd 3 ≤ 6) : ∃ τ, Er 57 [(.ref (2 : Nat))] (rS ρ (p, 0, 0)) none τ ∧ CPo D ρ (tE L tx rd p) τ := by
  have hD4 : 4 ≤ D := (by omega); have hL := hT.1; have b0 : bS 0 (p, 0, 0) := ⟨hp, Nat.zero_le _⟩; have e5 : ∀ s, rS ρ s 2 5 = .ref D := fun s => (rS_out (by omega)).trans h5; have e0 : ∀ s, rS ρ s D 0 = .int (nI (rd 0)) := fun s => (rS_out (by omega)).trans hC.1.2.2.1.1; have e1 : ∀ s, rS ρ s D 1 = .int (nI (rd 1)) := fun s => (rS_out (by omega)).trans hC.2; have e2 : ∀ s, rS ρ s D 2 = .int (nI (rd 2)) := fun s => (rS_out (by omega)).trans hC.1.2.2.1.2.1; have e3 : ∀ s, rS ρ s D 3 = .int (nI (rd 3)) := fun s => (rS_out (by omega)).trans hC.1.2.2.1.2.2.1; have e4 : ∀ s, rS ρ s D 4 = .int (nI (rd 4)) := fun s => (rS_out (by omega)).trans hC.1.2.2.1.2.2.2; have kP := hC.1.1.1; have hCR : ∀ s, CR (rS ρ s) D := fun s => (by rw [CR_rS hD4]; exact hC.1.2.1)
  have b1 := bS_wo (ok := decide (rd 3 < 6)) b0
  have b2 := bS_nu (tx := tx) (l := 0) (m := rd 0 - 1) hL b1
  have b3 := bS_nu (tx := tx) (l := 0) (m := rd 0 - 1) hL b2
  have b6 := bS_sg (tx := tx) (ch := 59) hL b3
  have eT : (tE L tx rd p).1 = psSg L tx 59 (psNu L tx 0 (rd 0 - 1) (psNu L tx 0 (rd 0 - 1) (psWo (decide (rd 3 < 6)) (p, 0, 0)))) := rfl
  have b7 := b6
  rw [← eT] at b7
  have b8 := b7.2
  have ez : nI (tE L tx rd p).1.2.1 = nI 0 ↔ (tE L tx rd p).1.2.1 = 0 := nI_eq (by omega) (by omega)
  have es : nI (rd 0) - nI 1 = nI (rd 0 - 1) := pk_sub (by omega)
  have e : nI 6 ≤ nI (rd 3) ↔ 6 ≤ rd 3 := nI_leI (by omega) (by omega)
  have run : ∀ Q, Wq none 57 0 [some (.ref (2 : Nat)), none, none] [] (rS ρ (p, 0, 0)) Q = Wq none 57 61 [some (.ref (2 : Nat)), some (.int (nI (nuV L tx (p + 1)))), some (.int (nI (nuV L tx (nuE L tx (p + 1)))))] [.int (nI (tE L tx rd p).1.2.1)] (rS ρ (tE L tx rd p).1) Q := by
    intro Q
    rw [eT]
    by_cases z : rd 3 < 6
    · have hz : decide (rd 3 < 6) = true := decide_eq_true z
      have z' : ¬ 6 ≤ rd 3 := by omega
      rw [hz] at b1 b2 b3 b6 ⊢
      simp only [w57_0, w57_1, w57_2, w57_5, w57_8, w57_10, w57_13, w57_14, w57_17, w57_18, w57_21, w57_22, w57_23, w57_24, w57_27, w57_30, w57_31, w57_32, w57_35, w57_36, w57_37, w57_38, w57_39, w57_42, w57_45, w57_46, w57_47, w57_50, w57_51, w57_52, w57_54, w57_57, w57_58, w57_64, w57_65, w57_68, w57_69, w57_70, w57_73, ks_2, kP, e5, e0, e3, e, z', es, c_w1 b0 (by omega), c_nu (l := 0) (m := rd 0 - 1) hT b1 (by omega) (by omega) (by omega), c_nu (l := 0) (m := rd 0 - 1) hT b2 (by omega) (by omega) (by omega), c_sg hT b3 (by omega), rS_3, ↓reduceIte, Option.toList_some, Option.toList_none, List.cons_append, List.nil_append]
      rfl
    · have hz : decide (rd 3 < 6) = false := decide_eq_false z
      have z' : 6 ≤ rd 3 := by omega
      rw [hz] at b1 b2 b3 b6 ⊢
      simp only [w57_0, w57_1, w57_2, w57_5, w57_8, w57_10, w57_13, w57_14, w57_17, w57_18, w57_21, w57_22, w57_23, w57_24, w57_27, w57_30, w57_31, w57_32, w57_35, w57_36, w57_37, w57_38, w57_39, w57_42, w57_45, w57_46, w57_47, w57_50, w57_51, w57_52, w57_54, w57_57, w57_58, w57_64, w57_65, w57_68, w57_69, w57_70, w57_73, ks_2, kP, e5, e0, e3, e, z', es, c_w0 b0 (by omega), c_nu (l := 0) (m := rd 0 - 1) hT b1 (by omega) (by omega) (by omega), c_nu (l := 0) (m := rd 0 - 1) hT b2 (by omega) (by omega) (by omega), c_sg hT b3 (by omega), rS_3, ↓reduceIte, Option.toList_some, Option.toList_none, List.cons_append, List.nil_append]
      rfl
  by_cases y : (tE L tx rd p).1.2.1 = 0
  · have y1 := sg_z (eT ▸ y)
    have y2 := nu_z y1.1
    have y3 := nu_z y2.1
    have y6 := wo_z y3.1
    have hx : rd 3 < 6 := of_decide_eq_true y6.2
    refine ⟨rS (adE D (rd 3) (nuV L tx (p + 1)) (nuV L tx (nuE L tx (p + 1))) ρ) (tE L tx rd p).1, Er_of ?_, _, (tE L tx rd p).1.1, rfl, by have := b7.1; omega, fun a b za zb => ?_, (DC_aE hC (by omega) h0 h2).1.2.1, fun _ => ⟨rfl, DC_aE hC (by omega) h0 h2⟩⟩
    · show Wq none 57 0 [some (.ref (2 : Nat)), none, none] [] (rS ρ (p, 0, 0)) _
      rw [run, y]
      simp only [w57_0, w57_1, w57_2, w57_5, w57_8, w57_10, w57_13, w57_14, w57_17, w57_18, w57_21, w57_22, w57_23, w57_24, w57_27, w57_30, w57_31, w57_32, w57_35, w57_36, w57_37, w57_38, w57_39, w57_42, w57_45, w57_46, w57_47, w57_50, w57_51, w57_52, w57_54, w57_57, w57_58, w57_61, w57_64, w57_65, w57_68, w57_69, w57_70, w57_73, ks_2, kP, e5, c_addE (DC_rS hD4 hC) hx, adE_rS hD4, ↓reduceIte, Option.toList_some, Option.toList_none, List.cons_append, List.nil_append, and_self]
    · unfold adE
      rw [up_get, if_neg (by omega), up_get, if_neg (by omega), up_get, if_neg (by omega)]
  · refine ⟨rS ρ (tE L tx rd p).1, Er_of ?_, CPo_f hC.1.2.1 b7 (by omega) y⟩
    show Wq none 57 0 [some (.ref (2 : Nat)), none, none] [] (rS ρ (p, 0, 0)) _
    rw [run]
    simp only [w57_0, w57_1, w57_2, w57_5, w57_8, w57_10, w57_13, w57_14, w57_17, w57_18, w57_21, w57_22, w57_23, w57_24, w57_27, w57_30, w57_31, w57_32, w57_35, w57_36, w57_37, w57_38, w57_39, w57_42, w57_45, w57_46, w57_47, w57_50, w57_51, w57_52, w57_54, w57_57, w57_58, w57_61, w57_64, w57_65, w57_68, w57_69, w57_70, w57_73, ks_2, ez, y, ↓reduceIte, Option.toList_some, Option.toList_none, List.cons_append, List.nil_append, and_self]
end CE
