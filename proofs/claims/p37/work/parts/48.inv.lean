/-! what both sides hold between two calls: the city c, how all is now n, k states that can be undone (p, the newest first), images q (bits) im, heard h hs ht, the book m bg bx, the text L tx, the latest fault f, the seed s -/
theorem gi_of {σ σ' : dm_G} {a b : Nat} (h : σ' a b = σ a b) : gi σ' a b = gi σ a b := by unfold gi; rw [h]
theorem CN_of {σ σ' : dm_G} {S G : Nat} {n : Nat → Nat} (h : ∀ i b, i ≤ 3 → σ' (S + i) b = σ (S + i) b) (hN : CN σ S G n) : CN σ' S G n := by
  obtain ⟨kS, ⟨q0, q1, q2⟩, ⟨j3, j4, j5, j6⟩, jf⟩ := hN
  have h0 : ∀ b, σ' S b = σ S b := fun b => h 0 b (by omega)
  refine ⟨kS, ⟨(h0 0).trans q0, (h0 1).trans q1, (h0 2).trans q2⟩, ⟨(h0 3).trans j3, (h0 4).trans j4, (h0 5).trans j5, (h0 6).trans j6⟩, fun g hg => ?_⟩
  obtain ⟨a1, a2, a3⟩ := jf g hg
  exact ⟨(gi_of (h 1 g (by omega))).trans a1, (gi_of (h 2 g (by omega))).trans a2, (gi_of (h 3 g (by omega))).trans a3⟩
theorem SR_of {σ σ' : dm_G} {S : Nat} (h : ∀ b, σ' S b = σ S b) (hN : SR σ S) : SR σ' S := ⟨(h 0).trans hN.1, (h 1).trans hN.2.1, (h 2).trans hN.2.2⟩
theorem CN_iN {σ : dm_G} {S G : Nat} {n : Nat → Nat} (hN : CN σ S G n) : ∃ x3 x4 x5 x6 : Int32, σ S 3 = .int x3 ∧ σ S 4 = .int x4 ∧ σ S 5 = .int x5 ∧ σ S 6 = .int x6 := by
  obtain ⟨kS, rS, ⟨j3, j4, j5, j6⟩, jf⟩ := hN
  exact ⟨_, _, _, _, j3, j4, j5, j6⟩
theorem SK_24 : SK 24 := ⟨rfl, ⟨rfl, rfl⟩, ⟨rfl, rfl⟩, ⟨rfl, rfl⟩⟩
theorem SK_p : ∀ i, i < 16 → SK (30 + 4 * i) := by
  have h : ∀ i, i < 16 → KS[30 + 4 * i]? = some (0, 7) ∧ (kt (30 + 4 * i + 1) = 1 ∧ kl (30 + 4 * i + 1) = 6) ∧ (kt (30 + 4 * i + 2) = 1 ∧ kl (30 + 4 * i + 2) = 6) ∧ (kt (30 + 4 * i + 3) = 1 ∧ kl (30 + 4 * i + 3) = 6) := by decide +kernel
  exact h
theorem SK_i : ∀ i, i < 2 → SK (96 + 4 * i) := by
  have h : ∀ i, i < 2 → KS[96 + 4 * i]? = some (0, 7) ∧ (kt (96 + 4 * i + 1) = 1 ∧ kl (96 + 4 * i + 1) = 6) ∧ (kt (96 + 4 * i + 2) = 1 ∧ kl (96 + 4 * i + 2) = 6) ∧ (kt (96 + 4 * i + 3) = 1 ∧ kl (96 + 4 * i + 3) = 6) := by decide +kernel
  exact h
/-- a state in a city -/
def WN (c n : Nat → Nat) : Prop := (∀ g, g < c 2 → n g < c 0 ∧ n (6 + g) < 2 ^ c 0 ∧ n (12 + g) < 2 ^ c 3) ∧ n 18 < 2 ^ c 3 ∧ n 19 < 2 ^ c 0 ∧ n 20 ≤ 9060 ∧ n 21 ≤ 999999
-- the class's side
def cPl (c : Nat → Nat) (σ : dm_G) : Prop := ∃ P D, ((P = 4 ∧ D = 14) ∨ (P = 14 ∧ D = 4)) ∧ BR σ P D ∧ CC σ P c ∧ CR σ D
def cPa (c : Nat → Nat) (k : Nat) (p : Nat → Nat → Nat) (σ : dm_G) : Prop := ∃ u, u < 16 ∧ CP σ u k ∧ (∀ i, i < 16 → SR σ (30 + 4 * i)) ∧ ∀ i, i < k → CN σ (30 + 4 * ((u + 15 - i) % 16)) (c 2) (p i)
def cIm (c : Nat → Nat) (q : Nat) (im : Nat → Nat → Nat) (σ : dm_G) : Prop := CI σ q ∧ (∀ i, i < 2 → SR σ (96 + 4 * i)) ∧ ∀ i, i < 2 → q.testBit i = true → CN σ (96 + 4 * i) (c 2) (im i) ∧ gi σ 104 i = nI (im i 22)
def cHe (c : Nat → Nat) (h : Nat) (hs ht : Nat → Nat) (σ : dm_G) : Prop := σ 105 2 = (.ref (106 : Nat)) ∧ (h = 0 → σ 105 0 = .int (-1) ∧ σ 105 1 = .int (nI 0)) ∧ (0 < h → σ 105 0 = .int (nI (h - 1)) ∧ σ 105 1 = .int (nI (stN c hs ht (h - 1) (c 0))) ∧ ∀ x, x < c 0 → gi σ 106 x = nI (psN c ht x (h - 1)))
def cTx (L : Nat) (tx : Nat → Nat) (σ : dm_G) : Prop := σ 0 1 = .int (nI L) ∧ ∀ i, i < L → gi σ 1 i = nI (tx i)
def cSc (σ : dm_G) : Prop := σ 110 0 = (.ref (111 : Nat)) ∧ σ 110 1 = (.ref (112 : Nat)) ∧ σ 110 2 = (.ref (113 : Nat)) ∧ σ 114 2 = (.ref (115 : Nat)) ∧ σ 114 3 = (.ref (116 : Nat)) ∧ σ 114 4 = (.ref (117 : Nat))
-- the reference's side
def WA (c n : Nat → Nat) (k : Nat) (p : Nat → Nat → Nat) (q : Nat) (im : Nat → Nat → Nat) (h : Nat) (hs ht : Nat → Nat) (m : Nat) (bg bx : Nat → Nat) (L : Nat) (tx : Nat → Nat) (s : Nat) : Prop := WC c ∧ WN c n ∧ (k ≤ 16 ∧ ∀ i, i < k → WN c (p i)) ∧ (q < 4 ∧ ∀ i, i < 2 → q.testBit i = true → WN c (im i) ∧ im i 22 < 2 ^ 31) ∧ (h ≤ 9 ∧ (∀ j, hs j < 6) ∧ ∀ j, ht j < 3) ∧ (m ≤ 15 ∧ ∀ i, i < m → bg i < c 2 ∧ bx i < c 0) ∧ (L ≤ 240 ∧ ∀ i, i < L → tx i < 256) ∧ s < 2 ^ 31
def CA (c n : Nat → Nat) (k : Nat) (p : Nat → Nat → Nat) (q : Nat) (im : Nat → Nat → Nat) (h : Nat) (hs ht : Nat → Nat) (m : Nat) (bg bx : Nat → Nat) (L : Nat) (tx : Nat → Nat) (f : Int32) (s : Nat) (σ : dm_G) : Prop := cPl c σ ∧ CN σ 24 (c 2) n ∧ cPa c k p σ ∧ cIm c q im σ ∧ cHe c h hs ht σ ∧ CBk σ m bg bx ∧ cTx L tx σ ∧ σ 0 2 = .int f ∧ σ 0 12 = .int (nI s) ∧ cSc σ
section FRM
variable {σ σ' : dm_G} {c n : Nat → Nat} {k : Nat} {p : Nat → Nat → Nat} {q : Nat} {im : Nat → Nat → Nat} {h : Nat} {hs ht : Nat → Nat} {m : Nat} {bg bx : Nat → Nat} {L : Nat} {tx : Nat → Nat} {f : Int32} {s : Nat}
theorem cPl_of (hk : ∀ a b, (a = 0 ∧ (b = 0 ∨ (3 ≤ b ∧ b ≤ 11))) ∨ (a = 2 ∧ b = 5) ∨ (4 ≤ a ∧ a < 24) → σ' a b = σ a b) (h : cPl c σ) : cPl c σ' := by
  obtain ⟨P, D, hPD, ⟨b0, b3, b4, b5, b6, b7, b8, b9, b10, b11, b12⟩, hC, hD⟩ := h
  have h0 : ∀ b, b = 0 ∨ (3 ≤ b ∧ b ≤ 11) → σ' 0 b = σ 0 b := fun b hb => hk 0 b (Or.inl ⟨rfl, hb⟩)
  refine ⟨P, D, hPD, ⟨(h0 0 (by omega)).trans b0, (h0 3 (by omega)).trans b3, (h0 4 (by omega)).trans b4, (hk 2 5 (by omega)).trans b5, (h0 5 (by omega)).trans b6, (h0 6 (by omega)).trans b7, (h0 7 (by omega)).trans b8, (h0 8 (by omega)).trans b9, (h0 9 (by omega)).trans b10, (h0 10 (by omega)).trans b11, (h0 11 (by omega)).trans b12⟩, CC_of (fun i hi => funext fun b => hk _ b (by omega)) hC, ?_⟩
  obtain ⟨r1, r2, r3, r4, r5, r6, r7, r8, r9⟩ := hD
  have hd : ∀ b, σ' D b = σ D b := fun b => hk _ b (by omega)
  exact ⟨(hd 5).trans r1, (hd 6).trans r2, (hd 7).trans r3, (hd 8).trans r4, (hd 9).trans r5, (hd 10).trans r6, (hd 11).trans r7, (hd 12).trans r8, (hd 13).trans r9⟩
theorem cNo_of {S : Nat} (hk : ∀ a b, S ≤ a ∧ a < S + 4 → σ' a b = σ a b) (h : CN σ S (c 2) n) : CN σ' S (c 2) n := CN_of (fun i b hi => hk _ b (by omega)) h
theorem CP_of {u : Nat} (hk : ∀ a b, a = 28 ∨ a = 29 → σ' a b = σ a b) (h : CP σ u k) : CP σ' u k := by
  obtain ⟨p0, p1, p2, p3⟩ := h
  exact ⟨(hk 28 0 (by omega)).trans p0, (hk 28 1 (by omega)).trans p1, (hk 28 2 (by omega)).trans p2, fun i hi => (hk 29 i (by omega)).trans (p3 i hi)⟩
theorem cPa_of (hk : ∀ a b, 28 ≤ a ∧ a < 94 → σ' a b = σ a b) (h : cPa c k p σ) : cPa c k p σ' := by
  obtain ⟨u, hu, hP, hS, hN⟩ := h
  refine ⟨u, hu, CP_of (fun a b z => hk a b (by omega)) hP, fun i hi => SR_of (fun b => hk _ b (by omega)) (hS i hi), fun i hi => CN_of (fun j b hj => hk _ b (by omega)) (hN i hi)⟩
theorem cIm_of (hk : ∀ a b, 94 ≤ a ∧ a < 105 → σ' a b = σ a b) (h : cIm c q im σ) : cIm c q im σ' := by
  obtain ⟨⟨p0, p1, p2, p3⟩, hS, hN⟩ := h
  refine ⟨⟨(hk 94 0 (by omega)).trans p0, (hk 94 1 (by omega)).trans p1, (hk 94 2 (by omega)).trans p2, fun i hi => (hk 95 i (by omega)).trans (p3 i hi)⟩, fun i hi => SR_of (fun b => hk _ b (by omega)) (hS i hi), fun i hi hb => ⟨CN_of (fun j b hj => hk _ b (by omega)) (hN i hi hb).1, (gi_of (hk _ _ (by omega))).trans (hN i hi hb).2⟩⟩
theorem cHe_of (hk : ∀ a b, a = 105 ∨ a = 106 → σ' a b = σ a b) (h1 : cHe c h hs ht σ) : cHe c h hs ht σ' := by
  obtain ⟨a, b, d⟩ := h1
  refine ⟨(hk _ _ (by omega)).trans a, fun z => ⟨(hk _ _ (by omega)).trans (b z).1, (hk _ _ (by omega)).trans (b z).2⟩, fun z => ⟨(hk _ _ (by omega)).trans (d z).1, (hk _ _ (by omega)).trans (d z).2.1, fun x hx => (gi_of (hk _ _ (by omega))).trans ((d z).2.2 x hx)⟩⟩
theorem CBk_of (hk : ∀ a b, 107 ≤ a ∧ a < 110 → σ' a b = σ a b) (h : CBk σ m bg bx) : CBk σ' m bg bx := by
  obtain ⟨a, b, d, e⟩ := h
  exact ⟨(hk _ _ (by omega)).trans a, (hk _ _ (by omega)).trans b, (hk _ _ (by omega)).trans d, fun i hi => ⟨(gi_of (hk _ _ (by omega))).trans (e i hi).1, (gi_of (hk _ _ (by omega))).trans (e i hi).2⟩⟩
theorem cTx_of (hk : ∀ a b, (a = 0 ∧ b = 1) ∨ a = 1 → σ' a b = σ a b) (h : cTx L tx σ) : cTx L tx σ' := ⟨(hk _ _ (by omega)).trans h.1, fun i hi => (gi_of (hk _ _ (by omega))).trans (h.2 i hi)⟩
theorem cSc_of (hk : ∀ a b, (a = 110 ∧ b < 3) ∨ (a = 114 ∧ 2 ≤ b ∧ b ≤ 4) → σ' a b = σ a b) (h : cSc σ) : cSc σ' := by
  obtain ⟨a, b, d, e, g, i⟩ := h
  exact ⟨(hk _ _ (by omega)).trans a, (hk _ _ (by omega)).trans b, (hk _ _ (by omega)).trans d, (hk _ _ (by omega)).trans e, (hk _ _ (by omega)).trans g, (hk _ _ (by omega)).trans i⟩
/-- the class's cells that are free between two calls -/
def scC (a b : Nat) : Prop := (a = 2 ∧ ¬ b = 5) ∨ a = 3 ∨ (a = 110 ∧ b = 3) ∨ (110 < a ∧ a < 114) ∨ (a = 114 ∧ (b < 2 ∨ 4 < b)) ∨ 114 < a
theorem CA_of (hk : ∀ a b, ¬ scC a b → σ' a b = σ a b) (h1 : CA c n k p q im h hs ht m bg bx L tx f s σ) : CA c n k p q im h hs ht m bg bx L tx f s σ' := by
  obtain ⟨h1, h2, h3, h4, h5, h6, h7, h8, h9, h10⟩ := h1
  unfold scC at hk
  exact ⟨cPl_of (fun a b z => hk a b (by omega)) h1, cNo_of (fun a b z => hk a b (by omega)) h2, cPa_of (fun a b z => hk a b (by omega)) h3, cIm_of (fun a b z => hk a b (by omega)) h4, cHe_of (fun a b z => hk a b (by omega)) h5, CBk_of (fun a b z => hk a b (by omega)) h6, cTx_of (fun a b z => hk a b (by omega)) h7, (hk _ _ (by omega)).trans h8, (hk _ _ (by omega)).trans h9, cSc_of (fun a b z => hk a b (by omega)) h10⟩
-- the reference's
/-- the reference's cells that are free between two calls -/
def scM (a b : Nat) : Prop := a < 118 ∨ (a = 118 ∧ ((16 ≤ b ∧ b < 22) ∨ (26 ≤ b ∧ b < 29))) ∨ a = 120 ∨ 129 ≤ a
end FRM
theorem Er_q {y : Nat} {as : List Value} {σ σ' : dm_G} {r : Option Value} (h : ∀ Q : Option Value → dm_G → Prop, Cq y as σ Q = Q r σ') : Er y as σ r σ' := by
  have h1 := h (fun r' σ2 => r' = r ∧ σ2 = σ')
  obtain ⟨r2, σ2, h2, rfl, rfl⟩ := h1.mpr ⟨rfl, rfl⟩
  exact h2
/-- a number is one of the first n, or none of them -/
theorem ix_cs (x : Int32) {n : Nat} (hn : n < 2 ^ 31) : (∃ j, j < n ∧ x = nI j) ∨ ((x < 0 ∨ nI n ≤ x) ∧ ¬ ∃ j, j < n ∧ x = nI j) := by
  rcases pk_ix x hn with h | h | h
  · refine Or.inr ⟨Or.inl h, ?_⟩
    rintro ⟨j, hj, rfl⟩
    exact nI_pos (by omega) h
  · refine Or.inr ⟨Or.inr h, ?_⟩
    rintro ⟨j, hj, rfl⟩
    exact nI_ge hj hn h
  · exact Or.inl h
