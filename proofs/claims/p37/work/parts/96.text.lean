/-! the text that the law tells, read purely -/
def nd (v : Nat) : Nat := if v ≤ 9 then 1 else if v ≤ 99 then 2 else 3
/-- the figures of v stand at b -/
def dAt (tx : Nat → Nat) (b v : Nat) : Prop := (v ≤ 9 → tx b = 48 + v) ∧ (10 ≤ v → v ≤ 99 → tx b = 48 + v / 10 ∧ tx (b + 1) = 48 + v % 10) ∧ (100 ≤ v → tx b = 48 + v / 100 ∧ tx (b + 1) = 48 + v / 10 % 10 ∧ tx (b + 2) = 48 + v % 10)
section TX
variable {L : Nat} {tx : Nat → Nat} {rd : Nat → Nat}
theorem run_k {q : Nat → Bool} : ∀ (k f p : Nat), k ≤ f → (∀ i, i < k → q (p + i) = true) → q (p + k) = false → runN q f p = p + k := by
  intro k
  induction k with
  | zero =>
    intro f p _ _ h
    cases f with
    | zero => rfl
    | succ f =>
      rw [runS, if_neg (by rw [show p = p + 0 by omega, h]; decide)]
      rfl
  | succ k ih =>
    intro f p hf h1 h2
    obtain ⟨f, rfl⟩ : ∃ g, f = g + 1 := ⟨f - 1, by omega⟩
    have h0 := h1 0 (by omega)
    rw [Nat.add_zero] at h0
    rw [runS, if_pos h0, ih f (p + 1) (by omega) (fun i hi => by rw [show p + 1 + i = p + (i + 1) by omega]; exact h1 (i + 1) (by omega)) (by rw [show p + 1 + k = p + (k + 1) by omega]; exact h2)]
    omega
theorem isB_n {p : Nat} (h : tx p ≠ 32) : isB L tx p = false := by
  unfold isB
  rw [decide_eq_false h, Bool.and_false]
theorem isBx_L {p : Nat} (h : L ≤ p) : isB L tx p = false := by
  unfold isB
  rw [decide_eq_false (by omega), Bool.false_and]
theorem isB_y {p : Nat} (h : p < L) (h2 : tx p = 32) : isB L tx p = true := by
  unfold isB
  rw [decide_eq_true h, decide_eq_true h2]
  rfl
theorem isF_y {p : Nat} (h : p < L) (h1 : 48 ≤ tx p) (h2 : tx p ≤ 57) : isF L tx p = true := by
  unfold isF
  rw [decide_eq_true h, decide_eq_true h1, decide_eq_true h2]
  rfl
theorem isF_n {p : Nat} (h : tx p < 48 ∨ 57 < tx p) : isF L tx p = false := by
  unfold isF
  rcases h with h | h
  · rw [decide_eq_false (show ¬ 48 ≤ tx p by omega), Bool.false_and, Bool.and_false]
  · rw [decide_eq_false (show ¬ tx p ≤ 57 by omega), Bool.and_false, Bool.and_false]
theorem sk_0 {p : Nat} (h : isB L tx p = false) : skB L tx p = p := run_k 0 L p (Nat.zero_le _) (fun i hi => by omega) h
theorem sk_1 {p : Nat} (h1 : p < L) (h2 : tx p = 32) (h3 : tx (p + 1) ≠ 32) : skB L tx p = p + 1 := run_k 1 L p (by omega) (fun i hi => by rw [show p + i = p by omega]; exact isB_y h1 h2) (isB_n h3)
theorem dAt_f {b v : Nat} (h : dAt tx b v) (hv : v ≤ 999) : ∀ i, i < nd v → 48 ≤ tx (b + i) ∧ tx (b + i) ≤ 57 := by
  obtain ⟨h1, h2, h3⟩ := h
  intro i hi
  unfold nd at hi
  split at hi
  · next z =>
    have := h1 z
    rw [show b + i = b by omega]
    omega
  · split at hi
    · next z1 z =>
      have := h2 (by omega) z
      rcases (by omega : i = 0 ∨ i = 1) with rfl | rfl
      · rw [Nat.add_zero]; omega
      · omega
    · next z1 z =>
      have := h3 (by omega)
      rcases (by omega : i = 0 ∨ i = 1 ∨ i = 2) with rfl | rfl | rfl
      · rw [Nat.add_zero]; omega
      · omega
      · omega
theorem vC_e {f b u : Nat} (h : isF L tx b = false) : vC L tx f b u = u := by
  cases f with
  | zero => rfl
  | succ f => rw [vCS, if_neg (by rw [h]; decide)]
theorem vC_s {f b u : Nat} (h : isF L tx b = true) (hf : 0 < f) : vC L tx f b u = vC L tx (f - 1) (b + 1) (min (u * 10 + tx b - 48) 1000) := by
  obtain ⟨g, rfl⟩ : ∃ g, f = g + 1 := ⟨f - 1, by omega⟩
  rw [vCS, if_pos h]
  rfl
/-- a number is read -/
theorem num_ok {p b v : Nat} (hv : v ≤ 999) (hb : skB L tx p = b) (hd : dAt tx b v) (hL : b + nd v ≤ L) (he : isF L tx (b + nd v) = false) : nuE L tx p = b + nd v ∧ nuV L tx p = v := by
  have hf := dAt_f hd hv
  have h1 : ∀ i, i < nd v → isF L tx (b + i) = true := fun i hi => isF_y (by omega) (hf i hi).1 (hf i hi).2
  have n1 : 1 ≤ nd v := by
    unfold nd
    split
    · omega
    · split <;> omega
  unfold nuE nuV
  rw [hb]
  refine ⟨run_k (nd v) L b (by omega) h1 he, ?_⟩
  obtain ⟨d1, d2, d3⟩ := hd
  by_cases z1 : v ≤ 9
  · have e1 : nd v = 1 := by unfold nd; rw [if_pos z1]
    rw [e1] at h1 he hL
    have := d1 z1
    have f0 := h1 0 (by omega)
    rw [Nat.add_zero] at f0
    rw [vC_s f0 (by omega), vC_e he]
    omega
  · by_cases z2 : v ≤ 99
    · have e1 : nd v = 2 := by unfold nd; rw [if_neg z1, if_pos z2]
      rw [e1] at h1 he hL
      have := d2 (by omega) z2
      have f0 := h1 0 (by omega)
      rw [Nat.add_zero] at f0
      rw [vC_s f0 (by omega), vC_s (h1 1 (by omega)) (by omega), vC_e he]
      omega
    · have e1 : nd v = 3 := by unfold nd; rw [if_neg z1, if_neg z2]
      rw [e1] at h1 he hL
      have := d3 (by omega)
      have f0 := h1 0 (by omega)
      rw [Nat.add_zero] at f0
      rw [vC_s f0 (by omega), vC_s (h1 1 (by omega)) (by omega), vC_s (h1 2 (by omega)) (by omega), vC_e he]
      omega
/-- a blank and a number -/
def nAt (tx : Nat → Nat) (p v : Nat) : Prop := tx p = 32 ∧ dAt tx (p + 1) v
def nl (v : Nat) : Nat := 1 + nd v
theorem nd_1 (v : Nat) : 1 ≤ nd v ∧ nd v ≤ 3 := by
  unfold nd
  split
  · omega
  · split <;> omega
theorem nu_b {p v l m : Nat} (hv : v ≤ 999) (h : nAt tx p v) (hL : p + nl v ≤ L) (he : tx (p + nl v) < 48 ∨ 57 < tx (p + nl v)) (h1 : l ≤ v) (h2 : v ≤ m) : nuE L tx p = p + nl v ∧ nuV L tx p = v ∧ kN L tx l m p = 0 := by
  have n1 := nd_1 v
  unfold nl at hL he ⊢
  have hb : skB L tx p = p + 1 := sk_1 (by omega) h.1 (by have := (dAt_f h.2 hv 0 (by omega)).1; rw [Nat.add_zero] at this; omega)
  obtain ⟨a1, a2⟩ := num_ok hv hb h.2 (by omega) (by rw [show p + 1 + nd v = p + (1 + nd v) by omega]; exact isF_n he)
  refine ⟨by omega, a2, ?_⟩
  unfold kN
  rw [a1, hb, a2, if_neg (by omega), if_neg (by omega)]
theorem nu_0 {p v l m : Nat} (hv : v ≤ 9) (h : tx p = 48 + v) (hL : p + 1 ≤ L) (he : tx (p + 1) < 48 ∨ 57 < tx (p + 1)) (h1 : l ≤ v) (h2 : v ≤ m) : nuE L tx p = p + 1 ∧ nuV L tx p = v ∧ kN L tx l m p = 0 := by
  have e1 : nd v = 1 := by unfold nd; rw [if_pos hv]
  have hb : skB L tx p = p := sk_0 (isB_n (by omega))
  obtain ⟨a1, a2⟩ := num_ok (p := p) (v := v) (by omega) hb ⟨fun _ => h, fun z => by omega, fun z => by omega⟩ (by omega) (by rw [e1]; exact isF_n he)
  rw [e1] at a1
  refine ⟨a1, a2, ?_⟩
  unfold kN
  rw [a1, hb, a2, if_neg (by omega), if_neg (by omega)]
theorem psW_0 {p x : Nat} {ok : Bool} (h : ok = true) : psWo ok (p, 0, x) = (p + 1, 0, p) := by
  unfold psWo
  rw [h]
  rfl
theorem psN_0 {p x l m v : Nat} (h : nuE L tx p = p + nl v ∧ nuV L tx p = v ∧ kN L tx l m p = 0) : ∃ y, psNu L tx l m (p, 0, x) = (p + nl v, 0, y) := by
  refine ⟨skB L tx p, ?_⟩
  unfold psNu
  dsimp only
  rw [h.1, h.2.2, if_pos rfl, if_pos rfl]
theorem lt_at {p ch : Nat} (h : p < L) (h2 : tx p = ch) : ltI L tx p = nI ch := by
  unfold ltI
  rw [if_pos h, h2]
theorem psS_0 {p x ch : Nat} (hc : ch ≠ 32) (h : p < L) (h2 : tx p = ch) : ∃ y, psSg L tx ch (p, 0, x) = (p + 1, 0, y) := by
  have hb : skB L tx p = p := sk_0 (isB_n (by omega))
  refine ⟨p, ?_⟩
  unfold psSg
  dsimp only
  rw [hb, lt_at h h2, if_pos rfl, if_pos rfl, if_pos rfl]
/-- the clauses -/
theorem cl_n {p v : Nat} (h0 : rd 0 = 0) (hv1 : 1 ≤ v) (hv : v ≤ 8) (c0 : tx p = 110) (n1 : nAt tx (p + 1) v) (s1 : tx (p + 1 + nl v) = 59) (hL : p + 1 + nl v + 1 ≤ L) : ∃ y, clT L tx rd p = ((p + 1 + nl v + 1, 0, y), cwN v) := by
  have a1 := nu_b (L := L) (l := 1) (m := 8) (by omega) n1 (by omega) (by omega) hv1 hv
  obtain ⟨y1, e1⟩ := psN_0 (x := p) a1
  obtain ⟨y2, e2⟩ := psS_0 (L := L) (x := y1) (ch := 59) (by omega) (by omega) s1
  refine ⟨y2, ?_⟩
  unfold clT tN
  rw [if_pos c0, psW_0 (decide_eq_true h0), e1, e2, a1.2.1]
theorem cl_c {p v0 v1 v2 v3 : Nat} (h0 : 0 < rd 0) (h8 : rd 0 ≤ 8) (h1 : rd 1 < rd 0) (hv0 : v0 ≤ 5) (hv1 : v1 < rd 0) (hv2 : v2 < rd 0) (hv3 : v3 < rd 0) (c0 : tx p = 99) (n0 : nAt tx (p + 1) v0) (n1 : nAt tx (p + 1 + nl v0) v1) (n2 : nAt tx (p + 1 + nl v0 + nl v1) v2) (n3 : nAt tx (p + 1 + nl v0 + nl v1 + nl v2) v3) (s1 : tx (p + 1 + nl v0 + nl v1 + nl v2 + nl v3) = 59) (hL : p + 1 + nl v0 + nl v1 + nl v2 + nl v3 + 1 ≤ L) : ∃ y, clT L tx rd p = ((p + 1 + nl v0 + nl v1 + nl v2 + nl v3 + 1, 0, y), rdX rd v0 v1 v2 v3) := by
  have b0 := n0.1
  have b1 := n1.1
  have b2 := n2.1
  have b3 := n3.1
  have a0 := nu_b (L := L) (l := 0) (m := 5) (by omega) n0 (by omega) (by omega) (by omega) hv0
  have a1 := nu_b (L := L) (l := 0) (m := rd 0 - 1) (by omega) n1 (by omega) (by omega) (by omega) (by omega)
  have a2 := nu_b (L := L) (l := 0) (m := rd 0 - 1) (by omega) n2 (by omega) (by omega) (by omega) (by omega)
  have a3 := nu_b (L := L) (l := 0) (m := rd 0 - 1) (by omega) n3 (by omega) (by omega) (by omega) (by omega)
  obtain ⟨y0, e0⟩ := psN_0 (x := p) a0
  obtain ⟨y1, e1⟩ := psN_0 (x := y0) a1
  obtain ⟨y2, e2⟩ := psN_0 (x := y1) a2
  obtain ⟨y3, e3⟩ := psN_0 (x := y2) a3
  obtain ⟨y4, e4⟩ := psS_0 (L := L) (x := y3) (ch := 59) (by omega) (by omega) s1
  refine ⟨y4, ?_⟩
  unfold clT tX
  rw [if_neg (by omega), if_neg (by omega), if_pos c0, psW_0 (decide_eq_true h1), e0, e1, e2, e3, e4, a0.2.1, a0.1, a1.2.1, a1.1, a2.2.1, a2.1, a3.2.1]
theorem cl_g {p v0 v1 v2 : Nat} (h0 : 0 < rd 0) (h8 : rd 0 ≤ 8) (h2 : rd 2 < 6) (hv0 : v0 < rd 0) (hv1 : v1 ≤ 99) (hv2 : 1 ≤ v2) (hv3 : v2 < 2 ^ rd 0) (c0 : tx p = 103) (n0 : nAt tx (p + 1) v0) (n1 : nAt tx (p + 1 + nl v0) v1) (n2 : nAt tx (p + 1 + nl v0 + nl v1) v2) (s1 : tx (p + 1 + nl v0 + nl v1 + nl v2) = 59) (hL : p + 1 + nl v0 + nl v1 + nl v2 + 1 ≤ L) : ∃ y, clT L tx rd p = ((p + 1 + nl v0 + nl v1 + nl v2 + 1, 0, y), rdG rd v0 v1 v2) := by
  have p8 : 2 ^ rd 0 ≤ 2 ^ 8 := Nat.pow_le_pow_right (by decide) h8
  have b0 := n0.1
  have b1 := n1.1
  have b2 := n2.1
  have a0 := nu_b (L := L) (l := 0) (m := rd 0 - 1) (by omega) n0 (by omega) (by omega) (by omega) (by omega)
  have a1 := nu_b (L := L) (l := 0) (m := 99) (by omega) n1 (by omega) (by omega) (by omega) hv1
  have a2 := nu_b (L := L) (l := 1) (m := 2 ^ rd 0 - 1) (by omega) n2 (by omega) (by omega) hv2 (by omega)
  obtain ⟨y0, e0⟩ := psN_0 (x := p) a0
  obtain ⟨y1, e1⟩ := psN_0 (x := y0) a1
  obtain ⟨y2, e2⟩ := psN_0 (x := y1) a2
  obtain ⟨y4, e4⟩ := psS_0 (L := L) (x := y2) (ch := 59) (by omega) (by omega) s1
  refine ⟨y4, ?_⟩
  unfold clT tG
  rw [if_neg (by omega), if_neg (by omega), if_neg (by omega), if_pos c0, psW_0 (decide_eq_true h2), e0, e1, e2, e4, a0.2.1, a0.1, a1.2.1, a1.1, a2.2.1]
theorem cl_e {p v0 v1 : Nat} (h0 : 0 < rd 0) (h8 : rd 0 ≤ 8) (h2 : rd 3 < 6) (hv0 : v0 < rd 0) (hv1 : v1 < rd 0) (c0 : tx p = 101) (n0 : nAt tx (p + 1) v0) (n1 : nAt tx (p + 1 + nl v0) v1) (s1 : tx (p + 1 + nl v0 + nl v1) = 59) (hL : p + 1 + nl v0 + nl v1 + 1 ≤ L) : ∃ y, clT L tx rd p = ((p + 1 + nl v0 + nl v1 + 1, 0, y), rdE rd v0 v1) := by
  have b0 := n0.1
  have b1 := n1.1
  have a0 := nu_b (L := L) (l := 0) (m := rd 0 - 1) (by omega) n0 (by omega) (by omega) (by omega) (by omega)
  have a1 := nu_b (L := L) (l := 0) (m := rd 0 - 1) (by omega) n1 (by omega) (by omega) (by omega) (by omega)
  obtain ⟨y0, e0⟩ := psN_0 (x := p) a0
  obtain ⟨y1, e1⟩ := psN_0 (x := y0) a1
  obtain ⟨y4, e4⟩ := psS_0 (L := L) (x := y1) (ch := 59) (by omega) (by omega) s1
  refine ⟨y4, ?_⟩
  unfold clT tE
  rw [if_neg (by omega), if_neg (by omega), if_neg (by omega), if_neg (by omega), if_pos c0, psW_0 (decide_eq_true h2), e0, e1, e4, a0.2.1, a0.1, a1.2.1]
/-- j moons from p on -/
def mAt (tx : Nat → Nat) (d : Nat → Nat) (p j : Nat) : Prop := (∀ i, i < j → d i ≤ 9 ∧ tx (p + 2 * i) = 48 + d i) ∧ (∀ i, i + 1 < j → tx (p + 2 * i + 1) = 44)
theorem mnT_S {f p : Nat} {rd : Nat → Nat} : mnT L tx (f + 1) p rd = if kN L tx 0 9 p = 0 then (if ltI L tx (skB L tx (nuE L tx p)) = nI 44 ∧ ¬ f = 0 then mnT L tx f (skB L tx (nuE L tx p) + 1) (rdM rd (nuV L tx p)) else (psSg L tx 59 (skB L tx (nuE L tx p), 0, 0), rdM rd (nuV L tx p))) else ((nuE L tx p, kN L tx 0 9 p, skB L tx p), rd) := rfl
theorem prT_S {f p : Nat} {rd : Nat → Nat} : prT L tx (f + 1) p rd = if p < L then (if (clT L tx rd p).1.2.1 = 0 then prT L tx f (skB L tx (clT L tx rd p).1.1) (clT L tx rd p).2 else clT L tx rd p) else ((p, 0, 0), rd) := rfl
def rdMs : Nat → (Nat → Nat) → (Nat → Nat) → Nat → Nat := fun j => match j with
  | 0 => fun rd _ => rd
  | j + 1 => fun rd d => rdMs j (rdM rd (d 0)) (fun i => d (i + 1))
theorem rdMs_o : ∀ (j : Nat) (rd d : Nat → Nat), rdMs j rd d 4 = rd 4 + j ∧ ∀ i, i < 67 → i ≠ 4 → rdMs j rd d i = rd i := by
  intro j
  induction j with
  | zero => intro rd d; exact ⟨rfl, fun _ _ _ => rfl⟩
  | succ j ih =>
    intro rd d
    obtain ⟨h1, h2⟩ := ih (rdM rd (d 0)) (fun i => d (i + 1))
    refine ⟨h1.trans (by rw [rdM_4]; omega), fun i hi h4 => (h2 i hi h4).trans (rdM_o ⟨h4, by omega⟩)⟩
theorem mn_ok : ∀ (j f p : Nat) (d : Nat → Nat) (rd : Nat → Nat), 0 < j → j ≤ f → mAt tx d p j → tx (p + 2 * j - 1) = 59 → p + 2 * j ≤ L → ∃ y, mnT L tx f p rd = ((p + 2 * j, 0, y), rdMs j rd d) := by
  intro j
  induction j with
  | zero => intro f p d rd h; omega
  | succ j ih =>
    intro f p d rd _ hf hm hs hL
    obtain ⟨f, rfl⟩ : ∃ g, f = g + 1 := ⟨f - 1, by omega⟩
    obtain ⟨m1, m2⟩ := id hm
    have m0 := m1 0 (by omega)
    rw [show p + 2 * 0 = p by omega] at m0
    by_cases hj : j = 0
    · subst hj
      have hs : tx (p + 1) = 59 := by rw [show p + 2 * (0 + 1) - 1 = p + 1 by omega] at hs; exact hs
      have a0 := nu_0 (L := L) (l := 0) (m := 9) m0.1 m0.2 (by omega) (by omega) (by omega) m0.1
      have hb : skB L tx (p + 1) = p + 1 := sk_0 (isB_n (by omega))
      obtain ⟨y4, e4⟩ := psS_0 (L := L) (x := 0) (ch := 59) (by omega) (show p + 1 < L by omega) hs
      refine ⟨y4, ?_⟩
      rw [mnT_S, if_pos a0.2.2, a0.1, hb, lt_at (show p + 1 < L by omega) hs, if_neg (fun z => absurd z.1 (by decide)), e4, a0.2.1]
      rfl
    · have hs1 : tx (p + 1) = 44 := by have := m2 0 (by omega); rwa [show p + 2 * 0 + 1 = p + 1 by omega] at this
      have a0 := nu_0 (L := L) (l := 0) (m := 9) m0.1 m0.2 (by omega) (by omega) (by omega) m0.1
      have hb : skB L tx (p + 1) = p + 1 := sk_0 (isB_n (by omega))
      have hm2 : mAt tx (fun i => d (i + 1)) (p + 2) j := ⟨fun i hi => by rw [show p + 2 + 2 * i = p + 2 * (i + 1) by omega]; exact m1 (i + 1) (by omega), fun i hi => by rw [show p + 2 + 2 * i + 1 = p + 2 * (i + 1) + 1 by omega]; exact m2 (i + 1) (by omega)⟩
      obtain ⟨y, e1⟩ := ih f (p + 2) (fun i => d (i + 1)) (rdM rd (d 0)) (by omega) (by omega) hm2 (by rw [show p + 2 + 2 * j - 1 = p + 2 * (j + 1) - 1 by omega]; exact hs) (by omega)
      refine ⟨y, ?_⟩
      rw [mnT_S, if_pos a0.2.2, a0.1, hb, lt_at (show p + 1 < L by omega) hs1, if_pos ⟨rfl, by omega⟩, a0.2.1, show p + 1 + 1 = p + 2 by omega, e1, show p + 2 + 2 * j = p + 2 * (j + 1) by omega]
      rfl
theorem cl_m {p j : Nat} {d : Nat → Nat} (h0 : 0 < rd 0) (h4 : rd 4 = 0) (hj : 0 < j) (hj2 : j ≤ 12) (c0 : tx p = 109) (hm : mAt tx d (p + 1) j) (hs : tx (p + 1 + 2 * j - 1) = 59) (hL : p + 1 + 2 * j ≤ L) : ∃ y, clT L tx rd p = ((p + 1 + 2 * j, 0, y), rdMs j rd d) := by
  obtain ⟨y, e1⟩ := mn_ok j 12 (p + 1) d rd hj hj2 hm hs hL
  refine ⟨y, ?_⟩
  unfold clT tM
  rw [if_neg (by omega), if_neg (by omega), if_neg (by omega), if_neg (by omega), if_neg (by omega), if_pos c0, if_pos h4, e1]
end TX
/-- the text up to P is read to rd, in j clauses, whatever follows -/
def PX (tx : Nat → Nat) (P j : Nat) (rd : Nat → Nat) : Prop := ∀ (L : Nat) (tx' : Nat → Nat), P ≤ L → L ≤ 240 → (∀ i, i < P → tx' i = tx i) → isB L tx' P = false → prT L tx' 240 (skB L tx' 0) (fun _ => 0) = prT L tx' (240 - j) P rd
theorem PX_0 (tx : Nat → Nat) : PX tx 0 0 (fun _ => 0) := by
  intro L tx' _ _ _ hb
  rw [sk_0 hb]
theorem PX_cg {tx tx2 : Nat → Nat} {P j : Nat} {rd : Nat → Nat} (h : PX tx P j rd) (hc : ∀ i, i < P → tx2 i = tx i) : PX tx2 P j rd := fun L tx' h1 h2 h3 h4 => h L tx' h1 h2 (fun i hi => (h3 i hi).trans (hc i hi)) h4
theorem PX_s {tx : Nat → Nat} {P P' j : Nat} {rd rd' : Nat → Nat} (h : PX tx P j rd) (hj : j < 240) (hP : P < P') (hn : tx P ≠ 32) (hcl : ∀ (L : Nat) (tx' : Nat → Nat), P' ≤ L → L ≤ 240 → (∀ i, i < P' → tx' i = tx i) → ∃ y, clT L tx' rd P = ((P', 0, y), rd')) : PX tx P' (j + 1) rd' := by
  intro L tx' h1 h2 h3 h4
  rw [h L tx' (by omega) h2 (fun i hi => h3 i (by omega)) (isB_n (by rw [h3 P hP]; exact hn))]
  obtain ⟨y, e1⟩ := hcl L tx' h1 h2 h3
  obtain ⟨f, hf⟩ : ∃ f, 240 - j = f + 1 := ⟨240 - j - 1, by omega⟩
  rw [hf, prT_S, if_pos (by omega), e1, if_pos rfl]
  dsimp only
  rw [sk_0 h4, show 240 - (j + 1) = f by omega]
theorem PX_e {tx : Nat → Nat} {P j : Nat} {rd : Nat → Nat} (h : PX tx P j rd) (hP : P ≤ 240) : txT P tx = ((P, 0, 0), rd) := by
  unfold txT
  rw [h P tx (Nat.le_refl _) hP (fun _ _ => rfl) (isBx_L (Nat.le_refl _))]
  cases 240 - j with
  | zero => rfl
  | succ f => rw [prT_S, if_neg (Nat.lt_irrefl _)]
