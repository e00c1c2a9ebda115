/-! the text: letters, blanks, numbers; the class's reader -/
def ltI (L : Nat) (tx : Nat → Nat) (p : Nat) : Int32 := if p < L then nI (tx p) else -1
def isB (L : Nat) (tx : Nat → Nat) (p : Nat) : Bool := decide (p < L) && decide (tx p = 32)
def isF (L : Nat) (tx : Nat → Nat) (p : Nat) : Bool := decide (p < L) && (decide (48 ≤ tx p) && decide (tx p ≤ 57))
def runN (q : Nat → Bool) : Nat → Nat → Nat := fun f => match f with
  | 0 => fun p => p
  | f + 1 => fun p => if q p = true then runN q f (p + 1) else p
def skB (L : Nat) (tx : Nat → Nat) (p : Nat) : Nat := runN (isB L tx) L p
/-- a number's value, cut at 1000 -/
def vC (L : Nat) (tx : Nat → Nat) : Nat → Nat → Nat → Nat := fun f => match f with
  | 0 => fun _ v => v
  | f + 1 => fun p v => if isF L tx p = true then vC L tx f (p + 1) (min (v * 10 + tx p - 48) 1000) else v
/-- of three figures alone -/
def vR (L : Nat) (tx : Nat → Nat) : Nat → Nat → Nat → Nat → Nat := fun f => match f with
  | 0 => fun _ _ v => v
  | f + 1 => fun p k v => if isF L tx p = true then vR L tx f (p + 1) (k + 1) (if k < 3 then 10 * v + tx p - 48 else v) else v
def nuE (L : Nat) (tx : Nat → Nat) (p : Nat) : Nat := runN (isF L tx) L (skB L tx p)
def nuV (L : Nat) (tx : Nat → Nat) (p : Nat) : Nat := vC L tx L (skB L tx p) 0
def kN (L : Nat) (tx : Nat → Nat) (l m p : Nat) : Nat := if nuE L tx p = skB L tx p then 1 else if 3 < nuE L tx p - skB L tx p ∨ nuV L tx p < l ∨ m < nuV L tx p then 2 else 0
def psNu (L : Nat) (tx : Nat → Nat) (l m : Nat) (s : Nat × Nat × Nat) : Nat × Nat × Nat := (nuE L tx s.1, if s.2.1 = 0 then kN L tx l m s.1 else s.2.1, if s.2.1 = 0 then skB L tx s.1 else s.2.2)
def psWo (ok : Bool) (s : Nat × Nat × Nat) : Nat × Nat × Nat := (s.1 + 1, if s.2.1 = 0 then (if ok = true then 0 else 3) else s.2.1, if s.2.1 = 0 then s.1 else s.2.2)
def psSg (L : Nat) (tx : Nat → Nat) (ch : Nat) (s : Nat × Nat × Nat) : Nat × Nat × Nat := (skB L tx s.1 + 1, if s.2.1 = 0 then (if ltI L tx (skB L tx s.1) = nI ch then 0 else 1) else s.2.1, if s.2.1 = 0 then skB L tx s.1 else s.2.2)
section TE
variable {L : Nat} {tx : Nat → Nat}
theorem runS {q : Nat → Bool} {f p : Nat} : runN q (f + 1) p = if q p = true then runN q f (p + 1) else p := rfl
theorem vCS {f p v : Nat} : vC L tx (f + 1) p v = if isF L tx p = true then vC L tx f (p + 1) (min (v * 10 + tx p - 48) 1000) else v := rfl
theorem vRS {f p k v : Nat} : vR L tx (f + 1) p k v = if isF L tx p = true then vR L tx f (p + 1) (k + 1) (if k < 3 then 10 * v + tx p - 48 else v) else v := rfl
theorem run_1 {q : Nat → Bool} (hq : ∀ p, q p = true → p < L) : ∀ f p, L ≤ p + f → runN q (f + 1) p = runN q f p := by
  intro f
  induction f with
  | zero =>
    intro p h
    rw [runS]
    by_cases z : q p = true
    · have := hq p z; omega
    · rw [if_neg z]; rfl
  | succ f ih =>
    intro p h
    rw [runS]
    by_cases z : q p = true
    · rw [if_pos z, ih (p + 1) (by omega), runS, if_pos z]
    · rw [if_neg z, runS, if_neg z]
theorem run_f {q : Nat → Bool} (hq : ∀ p, q p = true → p < L) (p : Nat) : ∀ f g, L ≤ p + f → f ≤ g → runN q g p = runN q f p := by
  intro f g h hg
  induction g with
  | zero => rw [show f = 0 by omega]
  | succ g ih =>
    by_cases z : f = g + 1
    · rw [z]
    · rw [run_1 hq g p (by omega), ih (by omega)]
theorem run_eq {q : Nat → Bool} (hq : ∀ p, q p = true → p < L) {p f g : Nat} (h : L ≤ p + f) (h2 : L ≤ p + g) : runN q f p = runN q g p := by
  by_cases z : f ≤ g
  · rw [run_f hq p f g h z]
  · rw [run_f hq p g f h2 (by omega)]
theorem run_le {q : Nat → Bool} (hq : ∀ p, q p = true → p < L) : ∀ f p, p ≤ runN q f p ∧ (runN q f p ≤ p ∨ runN q f p ≤ L) := by
  intro f
  induction f with
  | zero => intro p; exact ⟨Nat.le_refl _, Or.inl (Nat.le_refl _)⟩
  | succ f ih =>
    intro p
    rw [runS]
    by_cases z : q p = true
    · have := hq p z
      have := ih (p + 1)
      rw [if_pos z]
      omega
    · rw [if_neg z]
      omega
/-- where it stops, the next is no more of it -/
theorem run_no {q : Nat → Bool} (hq : ∀ p, q p = true → p < L) : ∀ f p, L ≤ p + f → ¬ q (runN q f p) = true := by
  intro f
  induction f with
  | zero =>
    intro p h z
    have := hq _ z
    have : runN q 0 p = p := rfl
    omega
  | succ f ih =>
    intro p h
    rw [runS]
    by_cases z : q p = true
    · rw [if_pos z]; exact ih (p + 1) (by omega)
    · rw [if_neg z]; exact z
theorem isB_L (p : Nat) (h : isB L tx p = true) : p < L := by
  unfold isB at h
  simp only [Bool.and_eq_true, decide_eq_true_eq] at h
  exact h.1
theorem isF_L (p : Nat) (h : isF L tx p = true) : p < L := by
  unfold isF at h
  simp only [Bool.and_eq_true, decide_eq_true_eq] at h
  exact h.1
theorem vC_f {p v : Nat} : ∀ f g, L ≤ p + f → L ≤ p + g → vC L tx f p v = vC L tx g p v := by
  intro f
  induction f generalizing p v with
  | zero =>
    intro g h1 h2
    cases g with
    | zero => rfl
    | succ g =>
      rw [vCS, if_neg (fun z => by have := isF_L p z; omega)]
      rfl
  | succ f ih =>
    intro g h1 h2
    cases g with
    | zero =>
      rw [vCS, if_neg (fun z => by have := isF_L p z; omega)]
      rfl
    | succ g =>
      rw [vCS, vCS]
      by_cases z : isF L tx p = true
      · rw [if_pos z, if_pos z]
        exact ih g (by omega) (by omega)
      · rw [if_neg z, if_neg z]
theorem vC_le {p v : Nat} (hv : v ≤ 1000) : ∀ f, vC L tx f p v ≤ 1000 := by
  intro f
  induction f generalizing p v with
  | zero => exact hv
  | succ f ih =>
    rw [vCS]
    split
    · exact ih (Nat.min_le_right _ _)
    · exact hv
/-- of three figures or less both values are one -/
theorem vR_C : ∀ f p k v, L ≤ p + f → k + (runN (isF L tx) f p - p) ≤ 3 → v < 10 ^ k → vR L tx f p k v = vC L tx f p v := by
  intro f
  induction f with
  | zero => intro p k v _ _ _; rfl
  | succ f ih =>
    intro p k v hL hk hv
    rw [vRS, vCS]
    rw [runS] at hk
    by_cases z : isF L tx p = true
    · rw [if_pos z] at hk ⊢
      rw [if_pos z]
      have hle := (run_le (L := L) (q := isF L tx) isF_L f (p + 1)).1
      have hk3 : k < 3 := by omega
      have hd : 48 ≤ tx p ∧ tx p ≤ 57 := by
        unfold isF at z
        simp only [Bool.and_eq_true, decide_eq_true_eq] at z
        exact z.2
      have hv1 : 10 * v + tx p - 48 < 10 ^ (k + 1) := by
        rw [Nat.pow_succ]
        omega
      have hp : 10 ^ (k + 1) ≤ 10 ^ 3 := Nat.pow_le_pow_right (by omega) (by omega)
      have e : min (v * 10 + tx p - 48) 1000 = 10 * v + tx p - 48 := by
        rw [Nat.mul_comm v 10]
        omega
      rw [if_pos hk3, e]
      exact ih (p + 1) (k + 1) _ (by omega) (by omega) hv1
    · rw [if_neg z, if_neg z]
theorem skB_le (p : Nat) : p ≤ skB L tx p ∧ (skB L tx p ≤ p ∨ skB L tx p ≤ L) := run_le isB_L L p
theorem nuE_le (p : Nat) : skB L tx p ≤ nuE L tx p ∧ (nuE L tx p ≤ p ∨ nuE L tx p ≤ L) := by
  have h1 := run_le (L := L) (q := isF L tx) isF_L L (skB L tx p)
  have h2 := skB_le (L := L) (tx := tx) p
  unfold nuE
  omega
theorem nuV_le (p : Nat) : nuV L tx p ≤ 1000 := vC_le (by omega) L
end TE
/-- the class's reader at a place, with a fault (0: none) and where it is -/
def rdS (ρ : dm_G) (p w : Nat) (fi : Int32) : dm_G := dm_up (dm_up (dm_up ρ 2 2 (.int (nI p))) 2 3 (.int (nI w))) 2 4 (.int fi)
theorem rdS_2 {ρ : dm_G} {p w p' : Nat} {fi : Int32} : dm_up (rdS ρ p w fi) 2 2 (.int (nI p')) = rdS ρ p' w fi := by
  funext a b
  unfold rdS
  simp only [up_get]
  by_cases h : a = 2
  · by_cases h2 : b = 2
    · subst h; subst h2; rfl
    · simp [h2]
  · simp [h]
theorem rdS_3 {ρ : dm_G} {p w w' : Nat} {fi : Int32} : dm_up (rdS ρ p w fi) 2 3 (.int (nI w')) = rdS ρ p w' fi := by
  funext a b
  unfold rdS
  simp only [up_get]
  by_cases h : a = 2
  · by_cases h2 : b = 3
    · subst h; subst h2; rfl
    · simp [h2]
  · simp [h]
theorem rdS_4 {ρ : dm_G} {p w : Nat} {fi fi' : Int32} : dm_up (rdS ρ p w fi) 2 4 (.int fi') = rdS ρ p w fi' := by
  funext a b
  unfold rdS
  simp only [up_get]
  by_cases h : a = 2
  · by_cases h2 : b = 4
    · subst h; subst h2; rfl
    · simp [h2]
  · simp [h]
theorem rdS_out {ρ : dm_G} {p w a b : Nat} {fi : Int32} (h : ¬ (a = 2 ∧ 1 < b ∧ b < 5)) : rdS ρ p w fi a b = ρ a b := by
  unfold rdS
  rw [up_get, if_neg (by omega), up_get, if_neg (by omega), up_get, if_neg (by omega)]
theorem rd_2 {ρ : dm_G} {p w : Nat} {fi : Int32} : rdS ρ p w fi 2 2 = .int (nI p) := rfl
theorem rd_3 {ρ : dm_G} {p w : Nat} {fi : Int32} : rdS ρ p w fi 2 3 = .int (nI w) := rfl
theorem rd_4 {ρ : dm_G} {p w : Nat} {fi : Int32} : rdS ρ p w fi 2 4 = .int fi := rfl
def fiO (w b : Nat) : Int32 := if w = 0 then -1 else nI b
/-- the reader's state as a triple -/
def rS (ρ : dm_G) (s : Nat × Nat × Nat) : dm_G := rdS ρ s.1 s.2.1 (fiO s.2.1 s.2.2)
/-- the text in the class's cells -/
def tXt (L : Nat) (tx : Nat → Nat) (ρ : dm_G) : Prop := L ≤ 240 ∧ (∀ i, i < L → tx i < 256) ∧ ρ 2 0 = (.ref (1 : Nat)) ∧ ρ 2 1 = .int (nI L) ∧ ∀ i, i < L → gi ρ 1 i = nI (tx i)
section TC
variable {L : Nat} {tx : Nat → Nat} {ρ : dm_G} {Q : Option Value → dm_G → Prop}
theorem c_letter {p w : Nat} {fi : Int32} (hT : tXt L tx ρ) (hp : p < 2 ^ 30) : Cq 64 [(.ref (2 : Nat))] (rdS ρ p w fi) Q = Q (some (.int (ltI L tx p))) (rdS ρ p w fi) := by
  obtain ⟨hL, ht, h0, h1, hx⟩ := hT
  have y0 : rdS ρ p w fi 2 0 = (.ref (1 : Nat)) := h0
  have y1 : rdS ρ p w fi 2 1 = .int (nI L) := h1
  have n0 : ¬ nI p < nI 0 := nI_pos (by omega)
  refine Cq_of (Er_of ?_)
  show Wq none 64 0 [some (.ref (2 : Nat))] [] _ _
  unfold ltI
  by_cases z : p < L
  · have n1 : ¬ nI L ≤ nI p := nI_ge z (by omega)
    have n2 : ¬ nI 240 ≤ nI p := nI_ge (by omega) (by omega)
    have y3 : gi (rdS ρ p w fi) 1 p = nI (tx p) := (gi_of (rdS_out (by omega))).trans (hx p z)
    simp only [w64_0, w64_1, w64_4, w64_7, w64_8, w64_11, w64_12, w64_15, w64_18, w64_19, w64_22, w64_23, w64_26, w64_26q, w64_27, w64_30, w64_31, w64_34, w64_35, w64_38, w64_39, w64_42, w64_43, ks_2, rd_2, y0, y1, n0, n1, kt_1, kl_1, n2, in_nI (show p < 240 by omega) (by omega), nI_clamp (show p < 2 ^ 31 by omega), y3, z, ↓reduceIte, Option.toList_some, Option.toList_none, List.cons_append, List.nil_append, and_self]
  · have n1 : nI L ≤ nI p := nI_le (by omega) (by omega)
    simp only [w64_0, w64_1, w64_4, w64_7, w64_8, w64_11, w64_12, w64_15, w64_18, w64_19, w64_22, w64_23, w64_26, w64_26q, w64_27, w64_30, w64_31, w64_34, w64_35, w64_38, w64_39, w64_42, w64_43, ks_2, rd_2, y1, n0, n1, z, ↓reduceIte, Option.toList_some, Option.toList_none, List.cons_append, List.nil_append, and_self]
theorem lt_32 {p : Nat} (ht : ∀ i, i < L → tx i < 256) : ltI L tx p = nI 32 ↔ isB L tx p = true := by
  unfold ltI isB
  by_cases z : p < L
  · have := ht p z
    rw [if_pos z, nI_eq (by omega) (by omega)]
    simp [z]
  · rw [if_neg z]
    simp only [z, decide_false, Bool.false_and, Bool.false_eq_true, iff_false]
    exact nI_m1 (by omega)
theorem c_isFig {p : Nat} (ht : ∀ i, i < L → tx i < 256) : Cq 62 [.int (ltI L tx p)] ρ Q = Q (some (.int (if isF L tx p = true then nI 1 else nI 0))) ρ := by
  refine Cq_of (Er_of ?_)
  show Wq none 62 0 [some (.int (ltI L tx p))] [] _ _
  unfold ltI isF
  by_cases z : p < L
  · have h256 := ht p z
    have i1 : nI (tx p) < nI 48 ↔ tx p < 48 := nI_ltI (by omega) (by omega)
    have i2 : nI 57 < nI (tx p) ↔ 57 < tx p := nI_ltI (by omega) (by omega)
    by_cases a : tx p < 48
    · have a' : ¬ 48 ≤ tx p := by omega
      simp only [w62_0, w62_1, w62_3, w62_6, w62_7, w62_9, w62_12, w62_13, w62_16, w62_17, z, i1, a, a', decide_true, decide_false, Bool.true_and, Bool.false_and, (by decide : nI 1 &&& 1 = nI 1), (by decide : nI 0 &&& 1 = nI 0), ↓reduceIte, Option.toList_some, Option.toList_none, List.cons_append, List.nil_append, and_self, Bool.false_eq_true]
    · have a' : 48 ≤ tx p := by omega
      by_cases b : 57 < tx p
      · have b' : ¬ tx p ≤ 57 := by omega
        simp only [w62_0, w62_1, w62_3, w62_6, w62_7, w62_9, w62_12, w62_13, w62_16, w62_17, z, i1, a, a', i2, b, b', decide_true, decide_false, Bool.true_and, (by decide : nI 1 &&& 1 = nI 1), (by decide : nI 0 &&& 1 = nI 0), ↓reduceIte, Option.toList_some, Option.toList_none, List.cons_append, List.nil_append, and_self, Bool.false_eq_true]
      · have b' : tx p ≤ 57 := by omega
        simp only [w62_0, w62_1, w62_3, w62_6, w62_7, w62_9, w62_12, w62_13, w62_16, w62_17, z, i1, a, a', i2, b, b', decide_true, Bool.true_and, (by decide : nI 1 &&& 1 = nI 1), (by decide : nI 0 &&& 1 = nI 0), ↓reduceIte, Option.toList_some, Option.toList_none, List.cons_append, List.nil_append, and_self]
  · simp only [w62_0, w62_1, w62_3, w62_6, w62_7, w62_9, w62_12, w62_13, w62_16, w62_17, z, (by decide : (-1 : Int32) < nI 48), decide_false, Bool.false_and, (by decide : nI 1 &&& 1 = nI 1), (by decide : nI 0 &&& 1 = nI 0), ↓reduceIte, Option.toList_some, Option.toList_none, List.cons_append, List.nil_append, and_self, Bool.false_eq_true]
theorem c_skip {p w : Nat} {fi : Int32} (hT : tXt L tx ρ) (hp : p < 2 ^ 20) : Cq 63 [(.ref (2 : Nat))] (rdS ρ p w fi) Q = Q none (rdS ρ (skB L tx p) w fi) := by
  have key : ∀ (Q : Option Value → dm_G → Prop) (f i p : Nat), i + f = 240 → p + f < 2 ^ 21 → Wq none 63 2 [some (.ref (2 : Nat)), some (.int (nI i))] [] (rdS ρ p w fi) Q = Q none (rdS ρ (runN (isB L tx) f p) w fi) := by
    intro Q f
    induction f with
    | zero =>
      intro i p hi hp
      obtain rfl : i = 240 := by omega
      rw [w63_2]
      simp only [w63_0, w63_1, w63_3, w63_6, w63_9, w63_10, w63_13, w63_15, w63_18, w63_19, w63_19i, w63_20, w63_23, w63_24, w63_25, w63_28, w63_31, w63_34, (by decide : nI 240 ≤ nI 240), ↓reduceIte, Option.toList_some, Option.toList_none, List.cons_append, List.nil_append]
      rfl
    | succ f ih =>
      intro i p hi hp
      have h1 : ¬ nI 240 ≤ nI i := nI_ge (by omega) (by omega)
      rw [w63_2, runS]
      by_cases z : isB L tx p = true
      · rw [if_pos z]
        simp only [w63_0, w63_1, w63_3, w63_6, w63_9, w63_10, w63_13, w63_15, w63_18, w63_19, w63_19i, w63_20, w63_23, w63_24, w63_25, w63_28, w63_31, w63_34, ks_2, h1, c_letter hT (show p < 2 ^ 30 by omega), lt_32 hT.2.1, z, rd_2, nI_add, rdS_2, ↓reduceIte, Option.toList_some, Option.toList_none, List.cons_append, List.nil_append]
        exact ih (i + 1) (p + 1) (by omega) (by omega)
      · rw [if_neg z]
        simp only [w63_0, w63_1, w63_3, w63_6, w63_9, w63_10, w63_13, w63_15, w63_18, w63_19, w63_19i, w63_20, w63_23, w63_24, w63_25, w63_28, w63_31, w63_34, ks_2, h1, c_letter hT (show p < 2 ^ 30 by omega), lt_32 hT.2.1, z, ↓reduceIte, Option.toList_some, Option.toList_none, List.cons_append, List.nil_append, Bool.false_eq_true]
  refine Cq_of (Er_of ?_)
  show Wq none 63 0 [some (.ref (2 : Nat)), none] [] _ _
  simp only [w63_0, w63_1, w63_3, w63_6, w63_9, w63_10, w63_13, w63_15, w63_18, w63_19, w63_19i, w63_20, w63_23, w63_24, w63_25, w63_28, w63_31, w63_34, ↓reduceIte, Option.toList_some, Option.toList_none, List.cons_append, List.nil_append]
  rw [key _ 240 0 p (by omega) (by omega), run_eq (L := L) isB_L (f := 240) (g := L) (by have := hT.1; omega) (by omega)]
  exact ⟨rfl, rfl⟩
theorem c_fail {p w k b0 : Nat} {b : Nat} (hw : w ≤ 3) (hk : 0 < k) : Cq 65 [(.ref (2 : Nat)), .int (nI k), .int (nI b0)] (rdS ρ p w (fiO w b)) Q = Q none (rdS ρ p (if w = 0 then k else w) (fiO (if w = 0 then k else w) (if w = 0 then b0 else b))) := by
  refine Cq_of (Er_of ?_)
  show Wq none 65 0 [some (.ref (2 : Nat)), some (.int (nI k)), some (.int (nI b0))] [] _ _
  have e : nI w = nI 0 ↔ w = 0 := nI_eq (by omega) (by omega)
  by_cases z : w = 0
  · subst z
    have hk0 : ¬ k = 0 := by omega
    simp only [w65_0, w65_1, w65_4, w65_7, w65_8, w65_9, w65_12, w65_13, w65_14, w65_17, ks_2, rd_3, rdS_3, rdS_4, fiO, hk0, ↓reduceIte, Option.toList_some, Option.toList_none, List.cons_append, List.nil_append, and_self]
  · simp only [w65_0, w65_1, w65_4, w65_7, w65_8, w65_9, w65_12, w65_13, w65_14, w65_17, ks_2, rd_3, e, z, ↓reduceIte, Option.toList_some, Option.toList_none, List.cons_append, List.nil_append, and_self]
theorem c_takeWord {s : Nat × Nat × Nat} {ok : Bool} (hs : s.1 < 2 ^ 20) (hw : s.2.1 ≤ 3) : Cq 59 [(.ref (2 : Nat)), .int (if ok = true then nI 1 else nI 0)] (rS ρ s) Q = Q none (rS ρ (psWo ok s)) := by
  obtain ⟨p, w, b⟩ := s
  dsimp only at hs hw
  refine Cq_of (Er_of ?_)
  show Wq none 59 0 [some (.ref (2 : Nat)), some (.int (if ok = true then nI 1 else nI 0))] [] (rdS ρ p w (fiO w b)) _
  unfold psWo rS
  dsimp only
  cases ok with
  | true =>
    have e : fiO w (if w = 0 then p else b) = fiO w b := by
      unfold fiO
      by_cases z : w = 0 <;> simp [z]
    have e2 : (if w = 0 then 0 else w) = w := by by_cases z : w = 0 <;> simp [z]
    simp only [if_true, e, e2]
    simp only [w59_0, w59_1, w59_4, w59_5, w59_6, w59_7, w59_10, w59_13, w59_14, w59_14i, w59_15, w59_18, w59_19, w59_20, w59_23, ks_2, nI_ne1, rd_2, nI_add, rdS_2, ↓reduceIte, Option.toList_some, Option.toList_none, List.cons_append, List.nil_append, and_self]
  | false =>
    simp only [Bool.false_eq_true, if_false]
    simp only [w59_0, w59_1, w59_4, w59_5, w59_6, w59_7, w59_10, w59_13, w59_14, w59_14i, w59_15, w59_18, w59_19, w59_20, w59_23, ks_2, rd_2, c_fail hw (show 0 < 3 by omega), nI_add, rdS_2, ↓reduceIte, Option.toList_some, Option.toList_none, List.cons_append, List.nil_append, and_self]
theorem c_takeSign {s : Nat × Nat × Nat} {ch : Nat} (hT : tXt L tx ρ) (hs : s.1 < 2 ^ 20) (hw : s.2.1 ≤ 3) : Cq 60 [(.ref (2 : Nat)), .int (nI ch)] (rS ρ s) Q = Q none (rS ρ (psSg L tx ch s)) := by
  obtain ⟨p, w, b⟩ := s
  dsimp only at hs hw
  have hb := skB_le (L := L) (tx := tx) p
  have hL := hT.1
  refine Cq_of (Er_of ?_)
  show Wq none 60 0 [some (.ref (2 : Nat)), some (.int (nI ch))] [] (rdS ρ p w (fiO w b)) _
  unfold psSg rS
  dsimp only
  by_cases y : ltI L tx (skB L tx p) = nI ch
  · have e : fiO w (if w = 0 then skB L tx p else b) = fiO w b := by
      unfold fiO
      by_cases z : w = 0 <;> simp [z]
    have e2 : (if w = 0 then 0 else w) = w := by by_cases z : w = 0 <;> simp [z]
    simp only [y, if_true, e, e2]
    simp only [w60_0, w60_1, w60_4, w60_5, w60_8, w60_9, w60_12, w60_13, w60_14, w60_15, w60_18, w60_21, w60_22, w60_22i, w60_23, w60_26, w60_27, w60_28, w60_31, ks_2, c_skip hT hs, c_letter hT (show skB L tx p < 2 ^ 30 by omega), y, rd_2, nI_add, rdS_2, ↓reduceIte, Option.toList_some, Option.toList_none, List.cons_append, List.nil_append, and_self]
  · simp only [y, if_false]
    simp only [w60_0, w60_1, w60_4, w60_5, w60_8, w60_9, w60_12, w60_13, w60_14, w60_15, w60_18, w60_21, w60_22, w60_22i, w60_23, w60_26, w60_27, w60_28, w60_31, ks_2, c_skip hT hs, c_letter hT (show skB L tx p < 2 ^ 30 by omega), y, rd_2, c_fail hw (show 0 < 1 by omega), nI_add, rdS_2, ↓reduceIte, Option.toList_some, Option.toList_none, List.cons_append, List.nil_append, and_self]
theorem l_num {w : Nat} {fi : Int32} {v1 v2 v3 : Option Value} (hT : tXt L tx ρ) {R : Prop} : ∀ (f i p v : Nat), i + f = 240 → p + f < 2 ^ 21 → v ≤ 1000 → (∀ v5, Wq none 61 70 [some (.ref (2 : Nat)), v1, v2, v3, some (.int (nI (vC L tx f p v))), v5] [] (rdS ρ (runN (isF L tx) f p) w fi) Q = R) → Wq none 61 15 [some (.ref (2 : Nat)), v1, v2, v3, some (.int (nI v)), some (.int (nI i))] [] (rdS ρ p w fi) Q = R := by
  intro f
  induction f with
  | zero =>
    intro i p v hi hp hv kk
    obtain rfl : i = 240 := by omega
    rw [w61_15]
    simp only [w61_0, w61_1, w61_4, w61_5, w61_8, w61_9, w61_10, w61_12, w61_13, w61_17, w61_20, w61_23, w61_24, w61_27, w61_30, w61_33, w61_35, w61_37, w61_38, w61_39, w61_42, w61_43, w61_45, w61_46, w61_49, w61_52, w61_54, w61_55, w61_55i, w61_56, w61_59, w61_60, w61_61, w61_64, w61_67, w61_71, w61_74, w61_75, w61_78, w61_79, w61_80, w61_81, w61_84, w61_87, w61_88, w61_91, w61_92, w61_93, w61_94, w61_97, w61_99, w61_100, w61_103, w61_105, w61_106, w61_109, w61_110, w61_111, w61_112, w61_115, w61_117, (by decide : nI 240 ≤ nI 240), ↓reduceIte, Option.toList_some, Option.toList_none, List.cons_append, List.nil_append]
    exact kk _
  | succ f ih =>
    intro i p v hi hp hv kk
    have h1 : ¬ nI 240 ≤ nI i := nI_ge (by omega) (by omega)
    rw [w61_15]
    rw [runS, vCS] at kk
    by_cases z : isF L tx p = true
    · rw [if_pos z, if_pos z] at kk
      have hz : p < L ∧ 48 ≤ tx p ∧ tx p ≤ 57 := by
        have z' := z
        unfold isF at z'
        simpa only [Bool.and_eq_true, decide_eq_true_eq] using z'
      have el : ltI L tx p = nI (tx p) := if_pos hz.1
      have ci := fun Q ρ => c_isFig (Q := Q) (ρ := ρ) (p := p) hT.2.1
      rw [z, el] at ci
      have cl := fun Q => c_letter (Q := Q) (w := w) (fi := fi) hT (show p < 2 ^ 30 by omega)
      rw [el] at cl
      simp only [if_true] at ci
      simp only [w61_0, w61_1, w61_4, w61_5, w61_8, w61_9, w61_10, w61_12, w61_13, w61_17, w61_20, w61_23, w61_24, w61_27, w61_30, w61_33, w61_35, w61_37, w61_38, w61_39, w61_42, w61_43, w61_45, w61_46, w61_49, w61_52, w61_54, w61_55, w61_55i, w61_56, w61_59, w61_60, w61_61, w61_64, w61_67, w61_71, w61_74, w61_75, w61_78, w61_79, w61_80, w61_81, w61_84, w61_87, w61_88, w61_91, w61_92, w61_93, w61_94, w61_97, w61_99, w61_100, w61_103, w61_105, w61_106, w61_109, w61_110, w61_111, w61_112, w61_115, w61_117, ks_2, h1, cl, ci, nI_ne1, pk_mul, nI_add, pk_sub (show 48 ≤ v * 10 + tx p by omega), nI_mn (show v * 10 + tx p - 48 < 2 ^ 31 by omega) (show 1000 < 2 ^ 31 by omega), rd_2, rdS_2, ↓reduceIte, Option.toList_some, Option.toList_none, List.cons_append, List.nil_append]
      exact ih (i + 1) (p + 1) _ (by omega) (by omega) (Nat.min_le_right _ _) kk
    · rw [if_neg z, if_neg z] at kk
      have ci := fun Q ρ => c_isFig (Q := Q) (ρ := ρ) (p := p) hT.2.1
      rw [if_neg z] at ci
      simp only [w61_0, w61_1, w61_4, w61_5, w61_8, w61_9, w61_10, w61_12, w61_13, w61_17, w61_20, w61_23, w61_24, w61_27, w61_30, w61_33, w61_35, w61_37, w61_38, w61_39, w61_42, w61_43, w61_45, w61_46, w61_49, w61_52, w61_54, w61_55, w61_55i, w61_56, w61_59, w61_60, w61_61, w61_64, w61_67, w61_71, w61_74, w61_75, w61_78, w61_79, w61_80, w61_81, w61_84, w61_87, w61_88, w61_91, w61_92, w61_93, w61_94, w61_97, w61_99, w61_100, w61_103, w61_105, w61_106, w61_109, w61_110, w61_111, w61_112, w61_115, w61_117, ks_2, h1, c_letter hT (show p < 2 ^ 30 by omega), ci, ↓reduceIte, Option.toList_some, Option.toList_none, List.cons_append, List.nil_append]
      exact kk _
theorem c_numb {s : Nat × Nat × Nat} {l m : Nat} (hT : tXt L tx ρ) (hs : s.1 < 2 ^ 20) (hw : s.2.1 ≤ 3) (hl : l ≤ 1000) (hm : m ≤ 1000) : Cq 61 [(.ref (2 : Nat)), .int (nI l), .int (nI m)] (rS ρ s) Q = Q (some (.int (nI (nuV L tx s.1)))) (rS ρ (psNu L tx l m s)) := by
  obtain ⟨p, w, b⟩ := s
  dsimp only at hs hw
  have hb := skB_le (L := L) (tx := tx) p
  have hL := hT.1
  have he := nuE_le (L := L) (tx := tx) p
  have hv := nuV_le (L := L) (tx := tx) p
  refine Cq_of (Er_of ?_)
  show Wq none 61 0 [some (.ref (2 : Nat)), some (.int (nI l)), some (.int (nI m)), none, none, none] [] (rdS ρ p w (fiO w b)) _
  simp only [w61_0, w61_1, w61_4, w61_5, w61_8, w61_9, w61_10, w61_12, w61_13, w61_17, w61_20, w61_23, w61_24, w61_27, w61_30, w61_33, w61_35, w61_37, w61_38, w61_39, w61_42, w61_43, w61_45, w61_46, w61_49, w61_52, w61_54, w61_55, w61_55i, w61_56, w61_59, w61_60, w61_61, w61_64, w61_67, w61_70, w61_71, w61_74, w61_75, w61_78, w61_79, w61_80, w61_81, w61_84, w61_87, w61_88, w61_91, w61_92, w61_93, w61_94, w61_97, w61_99, w61_100, w61_103, w61_105, w61_106, w61_109, w61_110, w61_111, w61_112, w61_115, w61_117, ks_2, c_skip hT hs, rd_2, ↓reduceIte, Option.toList_some, Option.toList_none, List.cons_append, List.nil_append]
  have key := l_num (w := w) (fi := fiO w b) (v1 := some (.int (nI l))) (v2 := some (.int (nI m))) (v3 := some (.int (nI (skB L tx p)))) (Q := fun r' σ2 => r' = some (.int (nI (nuV L tx p))) ∧ σ2 = rS ρ (psNu L tx l m (p, w, b))) (R := True) hT 240 0 (skB L tx p) 0 (by omega) (by omega) (by omega) (fun v5 => ?_)
  · rw [key]; exact trivial
  · rw [run_eq (L := L) isF_L (f := 240) (g := L) (by omega) (by omega), vC_f (f := 240) (g := L) (by omega) (by omega)]
    show Wq none 61 70 [some (.ref (2 : Nat)), some (.int (nI l)), some (.int (nI m)), some (.int (nI (skB L tx p))), some (.int (nI (nuV L tx p))), v5] [] (rdS ρ (nuE L tx p) w (fiO w b)) _ = True
    unfold psNu rS kN
    dsimp only
    have e : nI (nuE L tx p) = nI (skB L tx p) ↔ nuE L tx p = skB L tx p := nI_eq (by omega) (by omega)
    have e0 : fiO w (if w = 0 then skB L tx p else b) = fiO w b := by
      unfold fiO
      by_cases z : w = 0 <;> simp [z]
    have e02 : (if w = 0 then 0 else w) = w := by by_cases z : w = 0 <;> simp [z]
    have esub : nI (nuE L tx p) - nI (skB L tx p) = nI (nuE L tx p - skB L tx p) := pk_sub he.1
    have i3 : nI 3 < nI (nuE L tx p - skB L tx p) ↔ 3 < nuE L tx p - skB L tx p := nI_ltI (by omega) (by omega)
    have i4 : nI (nuV L tx p) < nI l ↔ nuV L tx p < l := nI_ltI (by omega) (by omega)
    have i5 : nI (nuV L tx p) ≤ nI m ↔ nuV L tx p ≤ m := nI_leI (by omega) (by omega)
    by_cases z1 : nuE L tx p = skB L tx p
    · simp only [z1, if_true]
      simp only [w61_0, w61_1, w61_4, w61_5, w61_8, w61_9, w61_10, w61_12, w61_13, w61_15, w61_17, w61_20, w61_23, w61_24, w61_27, w61_30, w61_33, w61_35, w61_37, w61_38, w61_39, w61_42, w61_43, w61_45, w61_46, w61_49, w61_52, w61_54, w61_55, w61_55i, w61_56, w61_59, w61_60, w61_61, w61_64, w61_67, w61_70, w61_71, w61_74, w61_75, w61_78, w61_79, w61_80, w61_81, w61_84, w61_87, w61_88, w61_91, w61_92, w61_93, w61_94, w61_97, w61_99, w61_100, w61_103, w61_105, w61_106, w61_109, w61_110, w61_111, w61_112, w61_115, w61_117, ks_2, rd_2, c_fail hw (show 0 < 1 by omega), ↓reduceIte, Option.toList_some, Option.toList_none, List.cons_append, List.nil_append, and_self]
    · simp only [z1, if_false]
      by_cases z3 : 3 < nuE L tx p - skB L tx p
      · simp only [z3, true_or, if_true]
        simp only [w61_0, w61_1, w61_4, w61_5, w61_8, w61_9, w61_10, w61_12, w61_13, w61_15, w61_17, w61_20, w61_23, w61_24, w61_27, w61_30, w61_33, w61_35, w61_37, w61_38, w61_39, w61_42, w61_43, w61_45, w61_46, w61_49, w61_52, w61_54, w61_55, w61_55i, w61_56, w61_59, w61_60, w61_61, w61_64, w61_67, w61_70, w61_71, w61_74, w61_75, w61_78, w61_79, w61_80, w61_81, w61_84, w61_87, w61_88, w61_91, w61_92, w61_93, w61_94, w61_97, w61_99, w61_100, w61_103, w61_105, w61_106, w61_109, w61_110, w61_111, w61_112, w61_115, w61_117, ks_2, rd_2, e, z1, esub, i3, z3, c_fail hw (show 0 < 2 by omega), ↓reduceIte, Option.toList_some, Option.toList_none, List.cons_append, List.nil_append, and_self]
      · by_cases z4 : nuV L tx p < l
        · simp only [z3, z4, true_or, or_true, if_true]
          simp only [w61_0, w61_1, w61_4, w61_5, w61_8, w61_9, w61_10, w61_12, w61_13, w61_15, w61_17, w61_20, w61_23, w61_24, w61_27, w61_30, w61_33, w61_35, w61_37, w61_38, w61_39, w61_42, w61_43, w61_45, w61_46, w61_49, w61_52, w61_54, w61_55, w61_55i, w61_56, w61_59, w61_60, w61_61, w61_64, w61_67, w61_70, w61_71, w61_74, w61_75, w61_78, w61_79, w61_80, w61_81, w61_84, w61_87, w61_88, w61_91, w61_92, w61_93, w61_94, w61_97, w61_99, w61_100, w61_103, w61_105, w61_106, w61_109, w61_110, w61_111, w61_112, w61_115, w61_117, ks_2, rd_2, e, z1, esub, i3, z3, i4, z4, c_fail hw (show 0 < 2 by omega), ↓reduceIte, Option.toList_some, Option.toList_none, List.cons_append, List.nil_append, and_self]
        · by_cases z5 : m < nuV L tx p
          · have z5' : ¬ nuV L tx p ≤ m := by omega
            simp only [z3, z4, z5, or_true, if_true]
            simp only [w61_0, w61_1, w61_4, w61_5, w61_8, w61_9, w61_10, w61_12, w61_13, w61_15, w61_17, w61_20, w61_23, w61_24, w61_27, w61_30, w61_33, w61_35, w61_37, w61_38, w61_39, w61_42, w61_43, w61_45, w61_46, w61_49, w61_52, w61_54, w61_55, w61_55i, w61_56, w61_59, w61_60, w61_61, w61_64, w61_67, w61_70, w61_71, w61_74, w61_75, w61_78, w61_79, w61_80, w61_81, w61_84, w61_87, w61_88, w61_91, w61_92, w61_93, w61_94, w61_97, w61_99, w61_100, w61_103, w61_105, w61_106, w61_109, w61_110, w61_111, w61_112, w61_115, w61_117, ks_2, rd_2, e, z1, esub, i3, z3, i4, z4, i5, z5', c_fail hw (show 0 < 2 by omega), ↓reduceIte, Option.toList_some, Option.toList_none, List.cons_append, List.nil_append, and_self]
          · have z5' : nuV L tx p ≤ m := by omega
            simp only [z3, z4, z5, or_false, if_false, e0, e02]
            simp only [w61_0, w61_1, w61_4, w61_5, w61_8, w61_9, w61_10, w61_12, w61_13, w61_15, w61_17, w61_20, w61_23, w61_24, w61_27, w61_30, w61_33, w61_35, w61_37, w61_38, w61_39, w61_42, w61_43, w61_45, w61_46, w61_49, w61_52, w61_54, w61_55, w61_55i, w61_56, w61_59, w61_60, w61_61, w61_64, w61_67, w61_70, w61_71, w61_74, w61_75, w61_78, w61_79, w61_80, w61_81, w61_84, w61_87, w61_88, w61_91, w61_92, w61_93, w61_94, w61_97, w61_99, w61_100, w61_103, w61_105, w61_106, w61_109, w61_110, w61_111, w61_112, w61_115, w61_117, ks_2, rd_2, e, z1, esub, i3, z3, i4, z4, i5, z5', ↓reduceIte, Option.toList_some, Option.toList_none, List.cons_append, List.nil_append, and_self]
end TC
