/-! who leads whom: the first best of all rows is the table's (no machine here) -/
def clI (w : Nat) : Nat := (w + 9999) / 10000
/-- the least limit from l on by which as many are led -/
def lmN (v : Nat → Nat) (most : Nat) : Nat → Nat → Nat := fun f => match f with
  | 0 => fun l => l
  | f + 1 => fun l => if clI (v l) < most then lmN v most f (l + 1) else l
def btr (a b : Nat × Nat × Nat) : Bool := decide (b.1 < a.1) || (decide (a.1 = b.1) && (decide (a.2.1 < b.2.1) || (decide (a.2.1 = b.2.1) && decide (a.2.2 < b.2.2))))
theorem btr_i {a b : Nat × Nat × Nat} : btr a b = true ↔ b.1 < a.1 ∨ (a.1 = b.1 ∧ (a.2.1 < b.2.1 ∨ (a.2.1 = b.2.1 ∧ a.2.2 < b.2.2))) := by
  unfold btr
  simp only [Bool.or_eq_true, Bool.and_eq_true, decide_eq_true_eq]
def keR (len : Nat → Nat → Option Nat) (pr : Nat → Nat → Nat) (G n : Nat) (r : Nat → Nat) : Nat × Nat × Nat := (mnR G r n, lgR len G r n, coR pr G r n)
def mayB (len : Nat → Nat → Option Nat) (G : Nat) (r : Nat → Nat) (e g : Nat) : Bool := decide (g = G) || ((len e g).isSome && !(tkR G r e).testBit g)
def rwT (may : Nat → Bool) (sub : Nat → List (Nat → Nat)) : Nat → Nat → List (Nat → Nat) := fun f => match f with
  | 0 => fun _ => []
  | f + 1 => fun g => (if may g = true then sub g else []) ++ rwT may sub f (g + 1)
/-- all rows that may be, of k clients from e on, in their order -/
def rwL (len : Nat → Nat → Option Nat) (G : Nat) : Nat → Nat → (Nat → Nat) → List (Nat → Nat) := fun k => match k with
  | 0 => fun _ r => [r]
  | k + 1 => fun e r => rwT (mayB len G r e) (fun g => rwL len G k (e + 1) (up1 r e g)) (G + 1) 0
section MQ
variable {len : Nat → Nat → Option Nat} {pr : Nat → Nat → Nat} {G n : Nat}
def wgF (len : Nat → Nat → Option Nat) (pr : Nat → Nat → Nat) (G n : Nat) (B : Option ((Nat × Nat × Nat) × (Nat → Nat))) (r : Nat → Nat) : Option ((Nat × Nat × Nat) × (Nat → Nat)) := match B with
  | none => some (keR len pr G n r, r)
  | some b => if btr (keR len pr G n r) b.1 = true then some (keR len pr G n r, r) else some b
theorem wgF_s {b : (Nat × Nat × Nat) × (Nat → Nat)} {r : Nat → Nat} : wgF len pr G n (some b) r = if btr (keR len pr G n r) b.1 = true then some (keR len pr G n r, r) else some b := rfl
theorem rwTS {may : Nat → Bool} {sub : Nat → List (Nat → Nat)} {f g : Nat} : rwT may sub (f + 1) g = (if may g = true then sub g else []) ++ rwT may sub f (g + 1) := rfl
theorem rwLS {k e : Nat} {r : Nat → Nat} : rwL len G (k + 1) e r = rwT (mayB len G r e) (fun g => rwL len G k (e + 1) (up1 r e g)) (G + 1) 0 := rfl
-- what a row's numbers depend on
theorem tkR_cg {r q : Nat → Nat} : ∀ e, (∀ j, j < e → q j = r j) → tkR G q e = tkR G r e := by
  intro e
  induction e with
  | zero => intro _; rfl
  | succ e ih =>
    intro h
    rw [tkR, tkR, ih (fun j hj => h j (by omega)), h e (by omega)]
theorem keR_cg {r q : Nat → Nat} (h : ∀ j, j < n → q j = r j) : keR len pr G n q = keR len pr G n r := by
  have h1 : ∀ e, e ≤ n → mnR G q e = mnR G r e ∧ lgR len G q e = lgR len G r e ∧ coR pr G q e = coR pr G r e := by
    intro e
    induction e with
    | zero => intro _; exact ⟨rfl, rfl, rfl⟩
    | succ e ih =>
      intro he
      obtain ⟨a, b, c⟩ := ih (by omega)
      rw [mnR, mnR, lgR, lgR, coR, coR, a, b, c, h e (by omega)]
      exact ⟨rfl, rfl, rfl⟩
  obtain ⟨a, b, c⟩ := h1 n (Nat.le_refl _)
  unfold keR
  rw [a, b, c]
theorem feR_cg {r q : Nat → Nat} {N : Nat} (h : ∀ j, j < N → q j = r j) (hf : feR len G r N) : feR len G q N := by
  intro e he
  rw [h e he, tkR_cg e (fun j hj => h j (by omega))]
  exact hf e he
theorem feR_up {r : Nat → Nat} {e g : Nat} (hf : feR len G r e) (hg : g ≤ G) (hm : mayB len G r e g = true) : feR len G (up1 r e g) (e + 1) := by
  intro j hj
  by_cases z : j = e
  · subst z
    rw [up1_eq, tkR_cg j (r := r) (fun i hi => up1_ne (by omega))]
    refine ⟨hg, fun y => ?_⟩
    unfold mayB at hm
    have hn : decide (g = G) = false := decide_eq_false (by omega)
    rw [hn, Bool.false_or, Bool.and_eq_true] at hm
    obtain ⟨h1, h2⟩ := hm
    refine ⟨fun w => (by rw [w] at h1; cases h1), ?_⟩
    simpa using h2
  · exact feR_cg (N := e) (fun i hi => up1_ne (by omega)) hf j (by omega)
theorem rwT_mem {may : Nat → Bool} {sub : Nat → List (Nat → Nat)} {q : Nat → Nat} : ∀ f g, q ∈ rwT may sub f g → ∃ g', g ≤ g' ∧ g' < g + f ∧ may g' = true ∧ q ∈ sub g' := by
  intro f
  induction f with
  | zero => intro g h; cases h
  | succ f ih =>
    intro g h
    rw [rwTS, List.mem_append] at h
    rcases h with h | h
    · by_cases z : may g = true
      · rw [if_pos z] at h
        exact ⟨g, Nat.le_refl _, by omega, z, h⟩
      · rw [if_neg z] at h
        cases h
    · obtain ⟨g', a, b, c, d⟩ := ih (g + 1) h
      exact ⟨g', by omega, by omega, c, d⟩
theorem rwL_mem {q : Nat → Nat} : ∀ k e r, e + k = n → feR len G r e → q ∈ rwL len G k e r → feR len G q n ∧ ∀ j, j < e → q j = r j := by
  intro k
  induction k with
  | zero =>
    intro e r he hf h
    obtain rfl : e = n := by omega
    have h : q ∈ [r] := h
    rw [List.mem_singleton] at h
    subst h
    exact ⟨hf, fun j _ => rfl⟩
  | succ k ih =>
    intro e r he hf h
    rw [rwLS] at h
    obtain ⟨g, h1, h2, h3, h4⟩ := rwT_mem _ _ h
    obtain ⟨a, b⟩ := ih (e + 1) (up1 r e g) (by omega) (feR_up hf (by omega) h3) h4
    exact ⟨a, fun j hj => (b j (by omega)).trans (up1_ne (by omega))⟩
/-- the rows are: those ahead of a row that may be, the row, those behind -/
theorem rwL_split {rs : Nat → Nat} (hs : feR len G rs n) : ∀ k e r, e + k = n → (∀ j, j < e → r j = rs j) → ∃ pre ro post, rwL len G k e r = pre ++ ro :: post ∧ (∀ j, j < n → ro j = rs j) ∧ (∀ q ∈ pre, feR len G q n ∧ ∃ i, i < n ∧ (∀ j, j < i → q j = rs j) ∧ q i < rs i) ∧ ∀ q ∈ post, feR len G q n := by
  intro k
  induction k with
  | zero =>
    intro e r he h
    obtain rfl : e = n := by omega
    exact ⟨[], r, [], rfl, h, fun q hq => (by cases hq), fun q hq => (by cases hq)⟩
  | succ k ih =>
    intro e r he h
    have hfr : feR len G r e := feR_cg h (fun j hj => hs j (by omega))
    obtain ⟨hse, hsm⟩ := hs e (by omega)
    have htk : tkR G r e = tkR G rs e := tkR_cg e h
    have hmay : mayB len G r e (rs e) = true := by
      unfold mayB
      by_cases z : rs e = G
      · rw [decide_eq_true z, Bool.true_or]
      · obtain ⟨a, b⟩ := hsm (by omega)
        rw [htk, b]
        cases hl : len e (rs e) with
        | none => exact absurd hl a
        | some d => simp
    have key : ∀ f g, g + f = G + 1 → g ≤ rs e → ∃ pre ro post, rwT (mayB len G r e) (fun g => rwL len G k (e + 1) (up1 r e g)) f g = pre ++ ro :: post ∧ (∀ j, j < n → ro j = rs j) ∧ (∀ q ∈ pre, feR len G q n ∧ ∃ i, i < n ∧ (∀ j, j < i → q j = rs j) ∧ q i < rs i) ∧ ∀ q ∈ post, feR len G q n := by
      intro f
      induction f with
      | zero => intro g h1 h2; omega
      | succ f ihf =>
        intro g h1 h2
        rw [rwTS]
        by_cases z : g = rs e
        · rw [if_pos (by rw [z]; exact hmay)]
          obtain ⟨pre, ro, post, e1, e2, e3, e4⟩ := ih (e + 1) (up1 r e g) (by omega) (fun j hj => by
            by_cases y : j = e
            · rw [y, up1_eq, z]
            · rw [up1_ne y]; exact h j (by omega))
          refine ⟨pre, ro, post ++ rwT (mayB len G r e) (fun g => rwL len G k (e + 1) (up1 r e g)) f (g + 1), ?_, e2, e3, fun q hq => ?_⟩
          · rw [e1, List.append_assoc, List.cons_append]
          · rw [List.mem_append] at hq
            rcases hq with hq | hq
            · exact e4 q hq
            · obtain ⟨g', a, b, c, d⟩ := rwT_mem _ _ hq
              exact (rwL_mem k (e + 1) (up1 r e g') (by omega) (feR_up hfr (by omega) c) d).1
        · obtain ⟨pre, ro, post, e1, e2, e3, e4⟩ := ihf (g + 1) (by omega) (by omega)
          refine ⟨(if mayB len G r e g = true then rwL len G k (e + 1) (up1 r e g) else []) ++ pre, ro, post, ?_, e2, fun q hq => ?_, e4⟩
          · rw [e1, List.append_assoc]
          · rw [List.mem_append] at hq
            rcases hq with hq | hq
            · by_cases y : mayB len G r e g = true
              · rw [if_pos y] at hq
                obtain ⟨a, b⟩ := rwL_mem (n := n) k (e + 1) (up1 r e g) (by omega) (feR_up hfr (by omega) y) hq
                refine ⟨a, e, by omega, fun j hj => ?_, ?_⟩
                · rw [b j (by omega), up1_ne (by omega)]
                  exact h j hj
                · rw [b e (by omega), up1_eq]
                  omega
              · rw [if_neg y] at hq
                cases hq
            · exact e3 q hq
    rw [rwLS]
    exact key (G + 1) 0 (by omega) (Nat.zero_le _)
theorem wg_fold {pre post : List (Nat → Nat)} {ro : Nat → Nat} (h1 : ∀ q ∈ pre, btr (keR len pr G n ro) (keR len pr G n q) = true) (h2 : ∀ q ∈ post, ¬ btr (keR len pr G n q) (keR len pr G n ro) = true) : (pre ++ ro :: post).foldl (wgF len pr G n) none = some (keR len pr G n ro, ro) := by
  rw [List.foldl_append, List.foldl_cons]
  have a : ∀ (l : List (Nat → Nat)) (B : Option ((Nat × Nat × Nat) × (Nat → Nat))), (∀ q ∈ l, btr (keR len pr G n ro) (keR len pr G n q) = true) → (∀ b, B = some b → btr (keR len pr G n ro) b.1 = true) → ∀ b, l.foldl (wgF len pr G n) B = some b → btr (keR len pr G n ro) b.1 = true := by
    intro l
    induction l with
    | nil => intro B _ hB b hb; exact hB b hb
    | cons q l ih =>
      intro B hl hB b hb
      rw [List.foldl_cons] at hb
      refine ih _ (fun q' hq' => hl q' (List.mem_cons_of_mem _ hq')) (fun b' hb' => ?_) b hb
      cases hB' : B with
      | none =>
        rw [hB'] at hb'
        cases hb'
        exact hl q List.mem_cons_self
      | some b0 =>
        rw [hB', wgF_s] at hb'
        split at hb'
        · cases hb'
          exact hl q List.mem_cons_self
        · cases hb'
          exact hB _ hB'
  have b : ∀ (l : List (Nat → Nat)), (∀ q ∈ l, ¬ btr (keR len pr G n q) (keR len pr G n ro) = true) → l.foldl (wgF len pr G n) (some (keR len pr G n ro, ro)) = some (keR len pr G n ro, ro) := by
    intro l
    induction l with
    | nil => intro _; rfl
    | cons q l ih =>
      intro hl
      rw [List.foldl_cons, wgF_s, if_neg (hl q List.mem_cons_self)]
      exact ih (fun q' hq' => hl q' (List.mem_cons_of_mem _ hq'))
  have h3 : wgF len pr G n (pre.foldl (wgF len pr G n) none) ro = some (keR len pr G n ro, ro) := by
    cases hB : pre.foldl (wgF len pr G n) none with
    | none => rfl
    | some b0 =>
      have := a pre none h1 (fun b hb => by cases hb) b0 hB
      rw [wgF_s, if_pos this]
  rw [h3]
  exact b post h2
-- the table's numbers
theorem cl_gRw {l : Nat} (hp : ∀ e g, pr e g ≤ 792) (hn : n ≤ 6) : clI (vD len pr G l n 0 0) = mnR G (gRw len pr G l n) n ∧ vD len pr G l n 0 0 + coR pr G (gRw len pr G l n) n = 10000 * mnR G (gRw len pr G l n) n := by
  have h1 := gRw_va (len := len) (pr := pr) (G := G) (l := l) (n := n) n 0 (by omega)
  have h2 := va_co (pr := pr) (G := G) (r := gRw len pr G l n) hp n
  rw [show vaR pr G (gRw len pr G l n) 0 = 0 from rfl, show gtk len pr G l n 0 = 0 from rfl] at h1
  unfold clI
  omega
theorem mn_up {l : Nat} {r : Nat → Nat} (hp : ∀ e g, pr e g ≤ 792) (hn : n ≤ 6) (hf : feR len G r n) (hl : lgR len G r n ≤ l) : mnR G r n ≤ clI (vD len pr G l n 0 0) := by
  have h1 := rwv_up (pr := pr) hf hl n 0 (by omega)
  have h2 := va_co (pr := pr) (G := G) (r := r) hp n
  have h3 := cl_gRw (len := len) (pr := pr) (G := G) (n := n) (l := l) hp hn
  rw [show vaR pr G r 0 = 0 from rfl, show tkR G r 0 = 0 from rfl] at h1
  have h4 := va_co (pr := pr) (G := G) (r := gRw len pr G l n) hp n
  omega
theorem lm_ok {v : Nat → Nat} {most : Nat} (h8 : most ≤ clI (v 8)) : ∀ f l, l + f = 8 → (∀ l', l' < l → clI (v l') < most) → (∀ l', l' < lmN v most f l → clI (v l') < most) ∧ lmN v most f l ≤ 8 ∧ most ≤ clI (v (lmN v most f l)) := by
  intro f
  induction f with
  | zero =>
    intro l hl h
    obtain rfl : l = 8 := by omega
    exact ⟨h, Nat.le_refl _, h8⟩
  | succ f ih =>
    intro l hl h
    show (∀ l', l' < (if clI (v l) < most then lmN v most f (l + 1) else l) → _) ∧ (if clI (v l) < most then lmN v most f (l + 1) else l) ≤ 8 ∧ most ≤ clI (v (if clI (v l) < most then lmN v most f (l + 1) else l))
    by_cases z : clI (v l) < most
    · rw [if_pos z]
      refine ih (l + 1) (by omega) (fun l' hl' => ?_)
      by_cases y : l' = l
      · rw [y]; exact z
      · exact h l' (by omega)
    · rw [if_neg z]
      exact ⟨h, by omega, by omega⟩
def mostN (len : Nat → Nat → Option Nat) (pr : Nat → Nat → Nat) (G n : Nat) : Nat := clI (vD len pr G 8 n 0 0)
def longN (len : Nat → Nat → Option Nat) (pr : Nat → Nat → Nat) (G n : Nat) : Nat := lmN (fun l => vD len pr G l n 0 0) (mostN len pr G n) 8 0
def costN (len : Nat → Nat → Option Nat) (pr : Nat → Nat → Nat) (G n : Nat) : Nat := mostN len pr G n * 10000 - vD len pr G (longN len pr G n) n 0 0
theorem lgR_le8 {r : Nat → Nat} (hl : ∀ e g d, len e g = some d → d ≤ 8) : ∀ e, lgR len G r e ≤ 8 := by
  intro e
  induction e with
  | zero => exact Nat.zero_le _
  | succ e ih =>
    rw [lgR]
    split
    · cases hd : len e (r e) with
      | none => show max _ 0 ≤ 8; omega
      | some d =>
        have := hl _ _ _ hd
        show max _ d ≤ 8
        omega
    · exact ih
/-- the first best of all rows is the table's -/
theorem best_row (hp : ∀ e g, pr e g ≤ 792) (hl : ∀ e g d, len e g = some d → d ≤ 8) (hn : n ≤ 6) (r0 : Nat → Nat) : ∃ ro, (rwL len G n 0 r0).foldl (wgF len pr G n) none = some ((mostN len pr G n, longN len pr G n, costN len pr G n), ro) ∧ ∀ j, j < n → ro j = gRw len pr G (longN len pr G n) n j := by
  have h8 : mostN len pr G n ≤ clI (vD len pr G 8 n 0 0) := Nat.le_refl _
  obtain ⟨b1, b2, b3⟩ := lm_ok (v := fun l => vD len pr G l n 0 0) h8 8 0 (by omega) (fun l' h => absurd h (by omega))
  have eL : lmN (fun l => vD len pr G l n 0 0) (mostN len pr G n) 8 0 = longN len pr G n := rfl
  rw [eL] at b1 b2 b3
  generalize hL : longN len pr G n = L at b1 b2 b3 ⊢
  have hle8 : ∀ r, lgR len G r n ≤ 8 := fun r => lgR_le8 hl n
  obtain ⟨g1, g2⟩ := gRw_ok (len := len) (pr := pr) (G := G) (l := L) (n := n)
  have g2 := g2 n (Nat.le_refl _)
  obtain ⟨c1, c2⟩ := cl_gRw (len := len) (pr := pr) (G := G) (n := n) (l := L) hp hn
  have hmost : mnR G (gRw len pr G L n) n = mostN len pr G n := by
    have h1 : mnR G (gRw len pr G L n) n ≤ mostN len pr G n := mn_up hp hn g1 (hle8 _)
    omega
  have hlong : lgR len G (gRw len pr G L n) n = L := by
    by_cases z : lgR len G (gRw len pr G L n) n = L
    · exact z
    · have h1 := b1 (lgR len G (gRw len pr G L n) n) (by omega)
      have h2 := mn_up (pr := pr) hp hn g1 (Nat.le_refl _)
      omega
  have hcost : coR pr G (gRw len pr G L n) n = costN len pr G n := by
    unfold costN
    rw [hL]
    omega
  have hkey : keR len pr G n (gRw len pr G L n) = (mostN len pr G n, L, costN len pr G n) := by
    unfold keR
    rw [hmost, hlong, hcost]
  have best : ∀ q, feR len G q n → ¬ btr (keR len pr G n q) (keR len pr G n (gRw len pr G L n)) = true := by
    intro q hq
    rw [btr_i, hkey]
    unfold keR
    dsimp only
    have h1 : mnR G q n ≤ mostN len pr G n := mn_up hp hn hq (hle8 _)
    by_cases y : lgR len G q n < L
    · have h2 := b1 _ y
      have h3 := mn_up (pr := pr) hp hn hq (Nat.le_refl (lgR len G q n))
      omega
    · by_cases x : lgR len G q n = L
      · have h4 := rwv_up (pr := pr) hq (Nat.le_of_eq x) n 0 (by omega)
        have h5 := va_co (pr := pr) (G := G) (r := q) hp n
        rw [show vaR pr G q 0 = 0 from rfl, show tkR G q 0 = 0 from rfl] at h4
        omega
      · omega
  have lexb : ∀ q, feR len G q n → (∃ i, i < n ∧ (∀ j, j < i → q j = gRw len pr G L n j) ∧ q i < gRw len pr G L n i) → btr (keR len pr G n (gRw len pr G L n)) (keR len pr G n q) = true := by
    rintro q hq ⟨i, hi, h1, h2⟩
    rw [btr_i, hkey]
    unfold keR
    dsimp only
    have h3 : mnR G q n ≤ mostN len pr G n := mn_up hp hn hq (hle8 _)
    by_cases y : lgR len G q n < L
    · have h4 := b1 _ y
      have h5 := mn_up (pr := pr) hp hn hq (Nat.le_refl (lgR len G q n))
      omega
    · by_cases x : lgR len G q n = L
      · have h4 := gRw_lex (pr := pr) hi hq (Nat.le_of_eq x) h1 h2
        have h5 := va_co (pr := pr) (G := G) (r := q) hp n
        have h6 := va_co (pr := pr) (G := G) (r := gRw len pr G L n) hp n
        omega
      · omega
  obtain ⟨pre, ro, post, e1, e2, e3, e4⟩ := rwL_split g1 n 0 r0 (by omega) (fun j hj => absurd hj (by omega))
  have ek : keR len pr G n ro = keR len pr G n (gRw len pr G L n) := keR_cg e2
  refine ⟨ro, ?_, e2⟩
  rw [e1, wg_fold (fun q hq => by rw [ek]; exact lexb q (e3 q hq).1 (e3 q hq).2) (fun q hq => by rw [ek]; exact best q (e4 q hq)), ek, hkey]
end MQ
