/-! who leads whom: the table by sets finds the first best row (no machine here) -/
def wwO (len : Nat → Nat → Option Nat) (pr : Nat → Nat → Nat) (l : Nat) (v : Nat → Nat) (e tk g : Nat) : Option Nat := if tk.testBit g = true then none else match len e g with
  | none => none
  | some d => if l < d then none else some (10000 - pr e g + v (tk ||| 1 <<< g))
def mxO (b : Nat) (o : Option Nat) : Nat := match o with
  | none => b
  | some w => max b w
def mxG (f : Nat → Option Nat) (b : Nat) : Nat → Nat := fun g => match g with
  | 0 => b
  | g + 1 => mxO (mxG f b g) (f g)
/-- the best worth of the clients e, e + 1 .. (k of them), the guides of tk taken -/
def vD (len : Nat → Nat → Option Nat) (pr : Nat → Nat → Nat) (G l : Nat) : Nat → Nat → Nat → Nat := fun k => match k with
  | 0 => fun _ _ => 0
  | k + 1 => fun e tk => mxG (wwO len pr l (vD len pr G l k (e + 1)) e tk) (vD len pr G l k (e + 1) tk) G
def tkR (G : Nat) (r : Nat → Nat) : Nat → Nat := fun e => match e with
  | 0 => 0
  | e + 1 => if r e < G then tkR G r e ||| 1 <<< r e else tkR G r e
def mnR (G : Nat) (r : Nat → Nat) : Nat → Nat := fun e => match e with
  | 0 => 0
  | e + 1 => if r e < G then mnR G r e + 1 else mnR G r e
def lgR (len : Nat → Nat → Option Nat) (G : Nat) (r : Nat → Nat) : Nat → Nat := fun e => match e with
  | 0 => 0
  | e + 1 => if r e < G then max (lgR len G r e) (dO (len e (r e))) else lgR len G r e
def coR (pr : Nat → Nat → Nat) (G : Nat) (r : Nat → Nat) : Nat → Nat := fun e => match e with
  | 0 => 0
  | e + 1 => if r e < G then coR pr G r e + pr e (r e) else coR pr G r e
def vaR (pr : Nat → Nat → Nat) (G : Nat) (r : Nat → Nat) : Nat → Nat := fun e => match e with
  | 0 => 0
  | e + 1 => if r e < G then vaR pr G r e + (10000 - pr e (r e)) else vaR pr G r e
/-- a row that may be, up to N -/
def feR (len : Nat → Nat → Option Nat) (G : Nat) (r : Nat → Nat) (N : Nat) : Prop := ∀ e, e < N → r e ≤ G ∧ (r e < G → len e (r e) ≠ none ∧ (tkR G r e).testBit (r e) = false)
def chO (len : Nat → Nat → Option Nat) (pr : Nat → Nat → Nat) (G l k e tk : Nat) : Option Nat := fnd (fun g => decide (wwO len pr l (vD len pr G l (k - 1) (e + 1)) e tk g = some (vD len pr G l k e tk))) G 0
/-- guides taken behind e choices -/
def gtk (len : Nat → Nat → Option Nat) (pr : Nat → Nat → Nat) (G l n : Nat) : Nat → Nat := fun e => match e with
  | 0 => 0
  | e + 1 => match chO len pr G l (n - e) e (gtk len pr G l n e) with
    | none => gtk len pr G l n e
    | some g => gtk len pr G l n e ||| 1 <<< g
/-- the row of the table's choices -/
def gRw (len : Nat → Nat → Option Nat) (pr : Nat → Nat → Nat) (G l n : Nat) : Nat → Nat := fun e => match chO len pr G l (n - e) e (gtk len pr G l n e) with
  | none => G
  | some g => g
section MP
variable {len : Nat → Nat → Option Nat} {pr : Nat → Nat → Nat} {G l n : Nat}
theorem vDS {k e tk : Nat} : vD len pr G l (k + 1) e tk = mxG (wwO len pr l (vD len pr G l k (e + 1)) e tk) (vD len pr G l k (e + 1) tk) G := rfl
theorem gtkS {e : Nat} : gtk len pr G l n (e + 1) = match chO len pr G l (n - e) e (gtk len pr G l n e) with
    | none => gtk len pr G l n e
    | some g => gtk len pr G l n e ||| 1 <<< g := rfl
theorem mxG_b {f : Nat → Option Nat} {b : Nat} : ∀ N, b ≤ mxG f b N := by
  intro N
  induction N with
  | zero => exact Nat.le_refl _
  | succ N ih =>
    rw [mxG]
    unfold mxO
    split
    · exact ih
    · omega
theorem mxG_g {f : Nat → Option Nat} {b w : Nat} : ∀ N g, g < N → f g = some w → w ≤ mxG f b N := by
  intro N
  induction N with
  | zero => intro g h; omega
  | succ N ih =>
    intro g hg hf
    rw [mxG]
    by_cases z : g = N
    · subst z
      rw [hf]
      show w ≤ max _ w
      omega
    · have := ih g (by omega) hf
      unfold mxO
      split
      · exact this
      · omega
theorem mxG_at {f : Nat → Option Nat} {b : Nat} : ∀ N, mxG f b N = b ∨ ∃ g, g < N ∧ f g = some (mxG f b N) := by
  intro N
  induction N with
  | zero => exact Or.inl rfl
  | succ N ih =>
    rw [mxG]
    cases hf : f N with
    | none =>
      show mxG f b N = b ∨ ∃ g, g < N + 1 ∧ f g = some (mxG f b N)
      rcases ih with h | ⟨g, hg, h⟩
      · exact Or.inl h
      · exact Or.inr ⟨g, by omega, h⟩
    | some w =>
      show max (mxG f b N) w = b ∨ ∃ g, g < N + 1 ∧ f g = some (max (mxG f b N) w)
      by_cases z : mxG f b N ≤ w
      · rw [Nat.max_eq_right z]
        exact Or.inr ⟨N, by omega, hf⟩
      · rw [Nat.max_eq_left (by omega)]
        rcases ih with h | ⟨g, hg, h⟩
        · exact Or.inl h
        · exact Or.inr ⟨g, by omega, h⟩
theorem lgR_mono {r : Nat → Nat} {e : Nat} : ∀ N, e ≤ N → lgR len G r e ≤ lgR len G r N := by
  intro N
  induction N with
  | zero => intro h; rw [show e = 0 by omega]; exact Nat.le_refl _
  | succ N ih =>
    intro h
    by_cases z : e = N + 1
    · rw [z]; exact Nat.le_refl _
    · have := ih (by omega)
      rw [lgR]
      split <;> omega
theorem lgR_e {r : Nat → Nat} {e d : Nat} (hd : len e (r e) = some d) (hg : r e < G) : d ≤ lgR len G r (e + 1) := by
  rw [lgR, if_pos hg, hd]
  show d ≤ max _ d
  omega
theorem wwO_y {v : Nat → Nat} {e tk g d : Nat} (h1 : tk.testBit g = false) (h2 : len e g = some d) (h3 : d ≤ l) : wwO len pr l v e tk g = some (10000 - pr e g + v (tk ||| 1 <<< g)) := by
  unfold wwO
  rw [if_neg (by rw [h1]; decide), h2]
  dsimp only
  rw [if_neg (by omega)]
theorem wwO_s {v : Nat → Nat} {e tk g w : Nat} (h : wwO len pr l v e tk g = some w) : tk.testBit g = false ∧ (∃ d, len e g = some d ∧ d ≤ l) ∧ w = 10000 - pr e g + v (tk ||| 1 <<< g) := by
  unfold wwO at h
  by_cases z : tk.testBit g = true
  · rw [if_pos z] at h
    cases h
  · rw [if_neg z] at h
    refine ⟨by simpa using z, ?_⟩
    cases hd : len e g with
    | none => rw [hd] at h; cases h
    | some d =>
      rw [hd] at h
      dsimp only at h
      by_cases y : l < d
      · rw [if_pos y] at h; cases h
      · rw [if_neg y] at h
        exact ⟨⟨d, rfl, by omega⟩, (Option.some.inj h).symm⟩
/-- no row is worth more than the table says -/
theorem rwv_up {r : Nat → Nat} (hf : feR len G r n) (hl : lgR len G r n ≤ l) : ∀ k e, e + k = n → vaR pr G r n ≤ vaR pr G r e + vD len pr G l k e (tkR G r e) := by
  intro k
  induction k with
  | zero =>
    intro e he
    obtain rfl : e = n := by omega
    omega
  | succ k ih =>
    intro e he
    have ih := ih (e + 1) (by omega)
    obtain ⟨h1, h2⟩ := hf e (by omega)
    rw [vDS]
    by_cases z : r e < G
    · obtain ⟨h3, h4⟩ := h2 z
      cases hd : len e (r e) with
      | none => exact absurd hd h3
      | some d =>
        have hdl : d ≤ l := Nat.le_trans (lgR_e hd z) (Nat.le_trans (lgR_mono n (by omega)) hl)
        have := mxG_g (b := vD len pr G l k (e + 1) (tkR G r e)) G (r e) z (wwO_y (pr := pr) (v := vD len pr G l k (e + 1)) h4 hd hdl)
        rw [vaR, if_pos z, tkR, if_pos z] at ih
        omega
    · have := mxG_b (f := wwO len pr l (vD len pr G l k (e + 1)) e (tkR G r e)) (b := vD len pr G l k (e + 1) (tkR G r e)) G
      rw [vaR, if_neg z, tkR, if_neg z] at ih
      omega
theorem ch_n {k e tk : Nat} (h : chO len pr G l (k + 1) e tk = none) : vD len pr G l (k + 1) e tk = vD len pr G l k (e + 1) tk := by
  rw [vDS]
  rcases mxG_at (f := wwO len pr l (vD len pr G l k (e + 1)) e tk) (b := vD len pr G l k (e + 1) tk) G with h1 | ⟨g, hg, h1⟩
  · exact h1
  · have h2 := fnd_none _ _ h g (by omega) (by omega)
    exact absurd h1 (of_decide_eq_false h2)
theorem ch_s {k e tk g : Nat} (h : chO len pr G l (k + 1) e tk = some g) : g < G ∧ wwO len pr l (vD len pr G l k (e + 1)) e tk g = some (vD len pr G l (k + 1) e tk) ∧ ∀ g', g' < g → ¬ wwO len pr l (vD len pr G l k (e + 1)) e tk g' = some (vD len pr G l (k + 1) e tk) := by
  obtain ⟨a1, a2, a3⟩ := fnd_some _ _ _ h
  exact ⟨by omega, of_decide_eq_true a3, fun g' hg' => of_decide_eq_false (fnd_first _ _ _ h g' (by omega) hg')⟩
theorem gRw_tk : ∀ e, e ≤ n → tkR G (gRw len pr G l n) e = gtk len pr G l n e := by
  intro e
  induction e with
  | zero => intro _; rfl
  | succ e ih =>
    intro he
    have ih := ih (by omega)
    rw [tkR, gtkS, ih]
    have hk : n - e = (n - e - 1) + 1 := by omega
    cases h : chO len pr G l (n - e) e (gtk len pr G l n e) with
    | none =>
      have : gRw len pr G l n e = G := by unfold gRw; rw [h]
      rw [if_neg (by omega)]
    | some g =>
      have : gRw len pr G l n e = g := by unfold gRw; rw [h]
      rw [hk] at h
      rw [this, if_pos (ch_s h).1]
/-- the table's row: may be, is short enough, is worth what the table says -/
theorem gRw_ok : feR len G (gRw len pr G l n) n ∧ (∀ e, e ≤ n → lgR len G (gRw len pr G l n) e ≤ l) := by
  have hstep : ∀ e, e < n → gRw len pr G l n e ≤ G ∧ (gRw len pr G l n e < G → (∃ d, len e (gRw len pr G l n e) = some d ∧ d ≤ l) ∧ (tkR G (gRw len pr G l n) e).testBit (gRw len pr G l n e) = false) := by
    intro e he
    have hk : n - e = (n - e - 1) + 1 := by omega
    rw [gRw_tk e (by omega)]
    cases h : chO len pr G l (n - e) e (gtk len pr G l n e) with
    | none =>
      have : gRw len pr G l n e = G := by unfold gRw; rw [h]
      rw [this]
      exact ⟨Nat.le_refl _, fun z => absurd z (Nat.lt_irrefl _)⟩
    | some g =>
      have : gRw len pr G l n e = g := by unfold gRw; rw [h]
      rw [hk] at h
      obtain ⟨a1, a2, -⟩ := ch_s h
      obtain ⟨b1, b2, -⟩ := wwO_s a2
      rw [this]
      exact ⟨by omega, fun _ => ⟨b2, b1⟩⟩
  refine ⟨fun e he => ⟨(hstep e he).1, fun z => ?_⟩, fun e => ?_⟩
  · obtain ⟨⟨d, hd, -⟩, h2⟩ := (hstep e he).2 z
    exact ⟨by rw [hd]; exact fun w => (by cases w), h2⟩
  · induction e with
    | zero => intro _; exact Nat.zero_le _
    | succ e ih =>
      intro he
      have ih := ih (by omega)
      rw [lgR]
      split
      · next z =>
        obtain ⟨⟨d, hd, hdl⟩, -⟩ := (hstep e (by omega)).2 z
        rw [hd]
        show max _ d ≤ l
        omega
      · exact ih
theorem gRw_va : ∀ k e, e + k = n → vaR pr G (gRw len pr G l n) n = vaR pr G (gRw len pr G l n) e + vD len pr G l k e (gtk len pr G l n e) := by
  intro k
  induction k with
  | zero =>
    intro e he
    obtain rfl : e = n := by omega
    rfl
  | succ k ih =>
    intro e he
    rw [ih (e + 1) (by omega), vaR, gtkS]
    have hk : n - e = k + 1 := by omega
    rw [hk]
    cases h : chO len pr G l (k + 1) e (gtk len pr G l n e) with
    | none =>
      have : gRw len pr G l n e = G := by unfold gRw; rw [hk, h]
      rw [if_neg (by omega)]
      dsimp only
      rw [ch_n h]
    | some g =>
      have : gRw len pr G l n e = g := by unfold gRw; rw [hk, h]
      obtain ⟨a1, a2, -⟩ := ch_s h
      obtain ⟨b1, b2, b3⟩ := wwO_s a2
      rw [this, if_pos a1]
      dsimp only
      omega
/-- a row ahead of the table's is worth less -/
theorem gRw_lex {r : Nat → Nat} {i : Nat} (hi : i < n) (hf : feR len G r n) (hl : lgR len G r n ≤ l) (h1 : ∀ j, j < i → r j = gRw len pr G l n j) (h2 : r i < gRw len pr G l n i) : vaR pr G r n < vaR pr G (gRw len pr G l n) n := by
  have ht : ∀ e, e ≤ i → tkR G r e = gtk len pr G l n e ∧ vaR pr G r e = vaR pr G (gRw len pr G l n) e := by
    intro e
    induction e with
    | zero => intro _; exact ⟨rfl, rfl⟩
    | succ e ih =>
      intro he
      obtain ⟨i1, i2⟩ := ih (by omega)
      have h3 := gRw_tk (len := len) (pr := pr) (G := G) (l := l) (n := n) (e + 1) (by omega)
      have h4 := gRw_tk (len := len) (pr := pr) (G := G) (l := l) (n := n) e (by omega)
      rw [← h3, tkR, tkR, vaR, vaR, h1 e (by omega), i1, i2, h4]
      exact ⟨rfl, rfl⟩
  obtain ⟨t1, t2⟩ := ht i (Nat.le_refl _)
  obtain ⟨k, hk⟩ : ∃ k, n - i = k + 1 := ⟨n - i - 1, by omega⟩
  have hv := gRw_va (len := len) (pr := pr) (G := G) (l := l) (n := n) (k + 1) i (by omega)
  have hu := rwv_up (pr := pr) hf hl k (i + 1) (by omega)
  obtain ⟨f1, f2⟩ := hf i hi
  have hG : gRw len pr G l n i ≤ G := (gRw_ok.1 i hi).1
  have z : r i < G := by omega
  obtain ⟨f3, f4⟩ := f2 z
  cases hd : len i (r i) with
  | none => exact absurd hd f3
  | some d =>
    have hdl : d ≤ l := Nat.le_trans (lgR_e hd z) (Nat.le_trans (lgR_mono n (by omega)) hl)
    have hw := wwO_y (pr := pr) (v := vD len pr G l k (i + 1)) f4 hd hdl
    have hm := mxG_g (b := vD len pr G l k (i + 1) (tkR G r i)) G (r i) z hw
    rw [t1] at hm hw
    rw [← vDS] at hm
    have hne : ¬ (10000 - pr i (r i) + vD len pr G l k (i + 1) (gtk len pr G l n i ||| 1 <<< r i)) = vD len pr G l (k + 1) i (gtk len pr G l n i) := by
      intro q
      rw [q] at hw
      cases hc : chO len pr G l (k + 1) i (gtk len pr G l n i) with
      | none =>
        have := fnd_none _ _ hc (r i) (by omega) (by omega)
        exact absurd hw (of_decide_eq_false this)
      | some g =>
        have hg : gRw len pr G l n i = g := by unfold gRw; rw [hk, hc]
        rw [hg] at h2
        exact (ch_s hc).2.2 (r i) h2 hw
    rw [vaR, if_pos z, tkR, if_pos z, t1, t2] at hu
    omega
theorem va_co {r : Nat → Nat} (hp : ∀ e g, pr e g ≤ 792) : ∀ e, vaR pr G r e + coR pr G r e = 10000 * mnR G r e ∧ coR pr G r e ≤ 792 * e := by
  intro e
  induction e with
  | zero => exact ⟨rfl, Nat.le_refl _⟩
  | succ e ih =>
    have := hp e (r e)
    rw [vaR, coR, mnR]
    split <;> omega
end MP
