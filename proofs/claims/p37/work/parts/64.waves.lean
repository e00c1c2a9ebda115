/-! turns that lead there from wherever: the search, and the class's side -/
abbrev WS : Type := (Nat → Nat) × (Nat → Option Nat) × (Nat → Nat) × Nat
def upO (st : Nat → Option Nat) (r d : Nat) : Nat → Option Nat := fun a => if a = r then some d else st a
def wvA (S : WS) (r d f : Nat) : WS := (up1 S.1 S.2.2.2 r, upO S.2.1 r d, up1 S.2.2.1 r f, S.2.2.2 + 1)
def wv0 : WS := (fun _ => 0, fun _ => none, fun _ => 0, 0)
def wvT (c : Nat → Nat) (is d t : Nat) (S : WS) : WS := if S.2.1 (endsN c is t (c 0)) = none then wvA S (endsN c is t (c 0)) (d + 1) (S.2.2.1 is * 10 + t + 1) else S
def wvP (c : Nat → Nat) (is d : Nat) (S : WS) : WS := wvT c is d 2 (wvT c is d 1 (wvT c is d 0 S))
def isE (x : Option Nat) (s : Nat) : Bool := decide (s = 0) || (match x with
  | none => decide (pcN s = 1)
  | some x => decide (s = 1 <<< x))
def dO (o : Option Nat) : Nat := match o with
  | none => 0
  | some d => d
def wvR (c : Nat → Nat) (x : Option Nat) (fig : Nat) : Nat → Nat → WS → Int32 := fun f => match f with
  | 0 => fun _ _ => -1
  | f + 1 => fun k S => if k < S.2.2.2 then (if isE x (S.1 k) = true then (if fig = 0 then oI (S.2.1 (S.1 k)) else nI (S.2.2.1 (S.1 k))) else wvR c x fig f (k + 1) (if dO (S.2.1 (S.1 k)) < 9 then wvP c (S.1 k) (dO (S.2.1 (S.1 k))) S else S)) else -1
theorem wvS {c : Nat → Nat} {x : Option Nat} {fig f k : Nat} {S : WS} : wvR c x fig (f + 1) k S = if k < S.2.2.2 then (if isE x (S.1 k) = true then (if fig = 0 then oI (S.2.1 (S.1 k)) else nI (S.2.2.1 (S.1 k))) else wvR c x fig f (k + 1) (if dO (S.2.1 (S.1 k)) < 9 then wvP c (S.1 k) (dO (S.2.1 (S.1 k))) S else S)) else -1 := rfl
def cntF (p : Nat → Bool) : Nat → Nat := fun N => match N with
  | 0 => 0
  | N + 1 => cntF p N + (if p N = true then 1 else 0)
theorem cntF_le (p : Nat → Bool) : ∀ N, cntF p N ≤ N := by
  intro N
  induction N with
  | zero => exact Nat.le_refl _
  | succ N ih =>
    rw [cntF]
    split <;> omega
theorem cntF_lt {p : Nat → Bool} : ∀ N, (∃ r, r < N ∧ p r = false) → cntF p N < N := by
  intro N
  induction N with
  | zero => rintro ⟨r, hr, -⟩; omega
  | succ N ih =>
    rintro ⟨r, hr, hp⟩
    have h1 := cntF_le p N
    rw [cntF]
    by_cases z : r = N
    · rw [if_neg (by rw [← z, hp]; decide)]
      omega
    · have := ih ⟨r, by omega, hp⟩
      split <;> omega
theorem cntF_cg {p p' : Nat → Bool} : ∀ N, (∀ i, i < N → p' i = p i) → cntF p' N = cntF p N := by
  intro N
  induction N with
  | zero => intro _; rfl
  | succ N ih =>
    intro h
    rw [cntF, cntF, ih (fun i hi => h i (by omega)), h N (by omega)]
theorem cntF_up {p p' : Nat → Bool} {r : Nat} (hp : p r = false) (h1 : p' r = true) (h2 : ∀ i, i ≠ r → p' i = p i) : ∀ N, r < N → cntF p' N = cntF p N + 1 := by
  intro N
  induction N with
  | zero => intro h; omega
  | succ N ih =>
    intro h
    rw [cntF, cntF]
    by_cases z : r = N
    · subst z
      rw [cntF_cg r (fun i hi => h2 i (by omega)), if_pos h1, if_neg (by rw [hp]; decide)]
    · rw [ih (by omega), h2 N (fun w => z w.symm)]
      omega
/-- the search's state as it should be -/
def wI (c : Nat → Nat) (S : WS) : Prop := (∀ i, i < S.2.2.2 → S.1 i < 2 ^ c 0 ∧ S.2.1 (S.1 i) ≠ none) ∧ (∀ r d, S.2.1 r = some d → d ≤ 9) ∧ cntF (fun r => (S.2.1 r).isSome) 256 = S.2.2.2
theorem wI_le {c : Nat → Nat} {S : WS} (h : wI c S) : S.2.2.2 ≤ 256 := by
  rw [← h.2.2]
  exact cntF_le _ _
theorem wI_lt {c : Nat → Nat} {S : WS} (h : wI c S) {r : Nat} (hr : r < 256) (hn : S.2.1 r = none) : S.2.2.2 < 256 := by
  rw [← h.2.2]
  exact cntF_lt 256 ⟨r, hr, by rw [hn]; rfl⟩
theorem wI_A {c : Nat → Nat} {S : WS} (hw : WC c) (h : wI c S) {r d f : Nat} (hr : r < 2 ^ c 0) (hn : S.2.1 r = none) (hd : d ≤ 9) : wI c (wvA S r d f) := by
  have p8 : 2 ^ c 0 ≤ 2 ^ 8 := Nat.pow_le_pow_right (by decide) hw.1
  obtain ⟨h1, h2, h3⟩ := h
  refine ⟨fun i hi => ?_, fun r' d' he => ?_, ?_⟩
  · show up1 S.1 S.2.2.2 r i < _ ∧ upO S.2.1 r d (up1 S.1 S.2.2.2 r i) ≠ none
    have hi : i < S.2.2.2 + 1 := hi
    by_cases z : i = S.2.2.2
    · rw [z, up1_eq]
      refine ⟨hr, ?_⟩
      unfold upO
      rw [if_pos rfl]
      exact fun w => by cases w
    · rw [up1_ne z]
      obtain ⟨a1, a2⟩ := h1 i (by omega)
      refine ⟨a1, ?_⟩
      unfold upO
      split
      · exact fun w => by cases w
      · exact a2
  · have he : upO S.2.1 r d r' = some d' := he
    unfold upO at he
    split at he
    · cases he; exact hd
    · exact h2 r' d' he
  · show cntF (fun r' => (upO S.2.1 r d r').isSome) 256 = S.2.2.2 + 1
    rw [← h3]
    refine cntF_up (r := r) (by rw [hn]; rfl) ?_ (fun i hi => ?_) 256 (by omega)
    · unfold upO
      rw [if_pos rfl]
      rfl
    · unfold upO
      rw [if_neg hi]
theorem wI_0 {c : Nat → Nat} : wI c wv0 := by
  refine ⟨fun i hi => absurd hi (Nat.not_lt_zero i), fun r d h => (by cases h), ?_⟩
  show cntF (fun _ => false) 256 = 0
  have : ∀ N, cntF (fun _ => false) N = 0 := fun N => by
    induction N with
    | zero => rfl
    | succ N ih => rw [cntF, ih]; rfl
  exact this 256
theorem endsN_lt {c : Nat → Nat} (hw : WC c) {s t : Nat} (ht : t < 3) : ∀ x, x ≤ c 0 → endsN c s t x < 2 ^ c 0 := by
  intro x
  induction x with
  | zero => intro _; exact Nat.pow_pos (by decide)
  | succ x ih =>
    intro hx
    rw [endsN]
    split
    · exact or_lt (ih (by omega)) (one_shl (hw.2.2.2.2.2.1 (3 * x + t) (by omega)))
    · exact ih (by omega)
theorem wI_T {c : Nat → Nat} {S : WS} (hw : WC c) (h : wI c S) {is d t : Nat} (ht : t < 3) (hd : d < 9) : wI c (wvT c is d t S) := by
  unfold wvT
  split
  · next z => exact wI_A hw h (endsN_lt hw ht _ (Nat.le_refl _)) z (by omega)
  · exact h
theorem wvT_st {c : Nat → Nat} {S : WS} {is d t r e : Nat} (h : S.2.1 r = some e) : (wvT c is d t S).2.1 r = some e := by
  unfold wvT
  split
  · next z =>
    show upO S.2.1 _ _ r = _
    unfold upO
    rw [if_neg (fun w => by rw [← w, h] at z; cases z)]
    exact h
  · exact h
theorem wvT_fg {c : Nat → Nat} {S : WS} {is d t r e : Nat} (h : S.2.1 r = some e) : (wvT c is d t S).2.2.1 r = S.2.2.1 r := by
  unfold wvT
  split
  · next z =>
    show up1 S.2.2.1 _ _ r = _
    rw [up1_ne (fun w => by rw [← w, h] at z; cases z)]
  · rfl
theorem oIs {d : Nat} : oI (some d) = nI d := rfl
section WV
variable {σ : dm_G} {c : Nat → Nat} {P D : Nat} {Q : Option Value → dm_G → Prop}
theorem c_isFound {s : Nat} {x : Option Nat} (hs : s < 256) (hx : ∀ k, x = some k → k < 8) : Cq 75 [.int (nI s), .int (oI x)] σ Q = Q (some (.int (if isE x s = true then nI 1 else nI 0))) σ := by
  refine Cq_of (Er_of ?_)
  show Wq none 75 0 [some (.int (nI s)), some (.int (oI x))] [] σ _
  unfold isE
  have e0 : nI s = nI 0 ↔ s = 0 := nI_eq (by omega) (by omega)
  have hpc := pc_le s
  have e1 : nI (pcN s) = nI 1 ↔ pcN s = 1 := nI_eq (by omega) (by omega)
  by_cases z : s = 0
  · simp only [w75_0, w75_1, w75_4, w75_5, w75_6, w75_9, w75_10, w75_13, w75_14, w75_17, w75_20, w75_21, w75_22, w75_23, w75_24, w75_27, w75_28, w75_31, w75_32, e0, z, decide_true, Bool.true_or, (by decide : nI 1 &&& 1 = nI 1), (by decide : nI 0 &&& 1 = nI 0), ↓reduceIte, Option.toList_some, Option.toList_none, List.cons_append, List.nil_append, and_self]
  · cases x with
    | none =>
      by_cases y : pcN s = 1
      · simp only [w75_0, w75_1, w75_4, w75_5, w75_6, w75_9, w75_10, w75_13, w75_14, w75_17, w75_20, w75_21, w75_22, w75_23, w75_24, w75_27, w75_28, w75_31, w75_32, e0, z, oI, c_bitCount hs, e1, y, decide_false, decide_true, Bool.false_or, (by decide : nI 1 &&& 1 = nI 1), (by decide : nI 0 &&& 1 = nI 0), ↓reduceIte, Option.toList_some, Option.toList_none, List.cons_append, List.nil_append, and_self]
      · simp only [w75_0, w75_1, w75_4, w75_5, w75_6, w75_9, w75_10, w75_13, w75_14, w75_17, w75_20, w75_21, w75_22, w75_23, w75_24, w75_27, w75_28, w75_31, w75_32, e0, z, oI, c_bitCount hs, e1, y, decide_false, Bool.false_or, (by decide : nI 1 &&& 1 = nI 1), (by decide : nI 0 &&& 1 = nI 0), ↓reduceIte, Option.toList_some, Option.toList_none, List.cons_append, List.nil_append, and_self, Bool.false_eq_true]
    | some k =>
      have hk := hx k rfl
      have hk8 : 1 <<< k < 2 ^ 8 := one_shl hk
      have hm1 : ¬ nI k = -1 := fun q => nI_m1 (show k < 2 ^ 31 by omega) q.symm
      have e2 : nI s = nI (1 <<< k) ↔ s = 1 <<< k := nI_eq (by omega) (by omega)
      by_cases y : s = 1 <<< k
      · have z' : ¬ 1 <<< k = 0 := by rw [← y]; exact z
        have e0' : nI (1 <<< k) = nI 0 ↔ 1 <<< k = 0 := nI_eq (by omega) (by omega)
        subst y
        simp only [w75_0, w75_1, w75_4, w75_5, w75_6, w75_9, w75_10, w75_13, w75_14, w75_17, w75_20, w75_21, w75_22, w75_23, w75_24, w75_27, w75_28, w75_31, w75_32, e0', z', oI, hm1, nI_shl 1 (show k < 32 by omega), decide_false, decide_true, Bool.false_or, (by decide : nI 1 &&& 1 = nI 1), (by decide : nI 0 &&& 1 = nI 0), ↓reduceIte, Option.toList_some, Option.toList_none, List.cons_append, List.nil_append, and_self]
      · simp only [w75_0, w75_1, w75_4, w75_5, w75_6, w75_9, w75_10, w75_13, w75_14, w75_17, w75_20, w75_21, w75_22, w75_23, w75_24, w75_27, w75_28, w75_31, w75_32, e0, z, oI, hm1, nI_shl 1 (show k < 32 by omega), e2, y, decide_false, Bool.false_or, (by decide : nI 1 &&& 1 = nI 1), (by decide : nI 0 &&& 1 = nI 0), ↓reduceIte, Option.toList_some, Option.toList_none, List.cons_append, List.nil_append, and_self, Bool.false_eq_true]
/-- the class's cells hold the search's state -/
def wC (ρ : dm_G) (S : WS) : Prop := (ρ 110 0 = (.ref (111 : Nat)) ∧ ρ 110 1 = (.ref (112 : Nat)) ∧ ρ 110 2 = (.ref (113 : Nat))) ∧ ρ 110 3 = .int (nI S.2.2.2) ∧ (∀ i, i < S.2.2.2 → gi ρ 111 i = nI (S.1 i)) ∧ (∀ r, r < 256 → gi ρ 112 r = oI (S.2.1 r)) ∧ ∀ r, r < 256 → S.2.1 r ≠ none → gi ρ 113 r = nI (S.2.2.1 r)
theorem c_reach {ρ : dm_G} {S : WS} {r d f : Nat} (hS : wC ρ S) (hr : r < 256) (hw : S.2.2.2 < 256) : ∃ ρ', (∀ Q : Option Value → dm_G → Prop, Cq 74 [(.ref (110 : Nat)), .int (nI r), .int (nI d), .int (nI f)] ρ Q = Q none ρ') ∧ wC ρ' (wvA S r d f) ∧ ∀ a b, ¬ ((a = 110 ∧ b = 3) ∨ (110 < a ∧ a < 114)) → ρ' a b = ρ a b := by
  obtain ⟨⟨s0, s1, s2⟩, s3, s4, s5, s6⟩ := hS
  let ρ1 : dm_G := dm_up ρ 112 r (.int (nI d))
  let ρ2 : dm_G := dm_up ρ1 113 r (.int (nI f))
  let ρ3 : dm_G := dm_up ρ2 111 S.2.2.2 (.int (nI r))
  let ρ4 : dm_G := dm_up ρ3 110 3 (.int (nI (S.2.2.2 + 1)))
  have x1 : ρ1 110 2 = (.ref (113 : Nat)) := s2
  have x2 : ρ2 110 0 = (.ref (111 : Nat)) := s0
  have x3 : ρ2 110 3 = .int (nI S.2.2.2) := s3
  have x4 : ρ3 110 3 = .int (nI S.2.2.2) := s3
  refine ⟨ρ4, fun Q => Cq_of (Er_of ?_), ⟨⟨s0, s1, s2⟩, rfl, fun i hi => ?_, fun r' hr' => ?_, fun r' hr' hn => ?_⟩, fun a b z => ?_⟩
  · show Wq none 74 0 [some (.ref (110 : Nat)), some (.int (nI r)), some (.int (nI d)), some (.int (nI f))] [] ρ _
    simp only [w74_0, w74_1, w74_4, w74_5, w74_6, w74_10, w74_13, w74_14, w74_15, w74_18, w74_19, w74_22, w74_23, w74_26, w74_27, w74_30, w74_31, w74_31i, w74_32, w74_35, w74_36, w74_37, w74_40, ks_110, s1, c_put kt_112 (show r < kl 112 by rw [kl_112]; omega) (by rw [kl_112]; omega), ↓reduceIte, Option.toList_some, Option.toList_none, List.cons_append, List.nil_append]
    show Wq none 74 9 [some (.ref (110 : Nat)), some (.int (nI r)), some (.int (nI d)), some (.int (nI f))] [] ρ1 _
    simp only [w74_0, w74_1, w74_4, w74_5, w74_6, w74_9, w74_10, w74_13, w74_14, w74_15, w74_19, w74_22, w74_23, w74_26, w74_27, w74_30, w74_31, w74_31i, w74_32, w74_35, w74_36, w74_37, w74_40, ks_110, x1, c_put kt_113 (show r < kl 113 by rw [kl_113]; omega) (by rw [kl_113]; omega), ↓reduceIte, Option.toList_some, Option.toList_none, List.cons_append, List.nil_append]
    show Wq none 74 18 [some (.ref (110 : Nat)), some (.int (nI r)), some (.int (nI d)), some (.int (nI f))] [] ρ2 _
    simp only [w74_0, w74_1, w74_4, w74_5, w74_6, w74_9, w74_10, w74_13, w74_14, w74_15, w74_18, w74_19, w74_22, w74_23, w74_26, w74_27, w74_31, w74_31i, w74_32, w74_35, w74_36, w74_37, w74_40, ks_110, x2, x3, c_put kt_111 (show S.2.2.2 < kl 111 by rw [kl_111]; omega) (by rw [kl_111]; omega), ↓reduceIte, Option.toList_some, Option.toList_none, List.cons_append, List.nil_append]
    show Wq none 74 30 [some (.ref (110 : Nat)), some (.int (nI r)), some (.int (nI d)), some (.int (nI f))] [] ρ3 _
    simp only [w74_0, w74_1, w74_4, w74_5, w74_6, w74_9, w74_10, w74_13, w74_14, w74_15, w74_18, w74_19, w74_22, w74_23, w74_26, w74_27, w74_30, w74_31, w74_31i, w74_32, w74_35, w74_36, w74_37, w74_40, ks_110, x4, nI_add, ↓reduceIte, Option.toList_some, Option.toList_none, List.cons_append, List.nil_append, true_and]
    rfl
  · show gi (dm_up (dm_up (dm_up (dm_up ρ 112 r _) 113 r _) 111 S.2.2.2 _) 110 3 _) 111 i = nI (up1 S.1 S.2.2.2 r i)
    rw [gi_up, if_neg (by omega), gi_up]
    have hi : i < S.2.2.2 + 1 := hi
    by_cases z : i = S.2.2.2
    · rw [if_pos ⟨rfl, z⟩, z, up1_eq]
    · rw [if_neg (fun w => z w.2), up1_ne z, gi_up, if_neg (by omega), gi_up, if_neg (by omega)]
      exact s4 i (by omega)
  · show gi (dm_up (dm_up (dm_up (dm_up ρ 112 r _) 113 r _) 111 S.2.2.2 _) 110 3 _) 112 r' = oI (upO S.2.1 r d r')
    rw [gi_up, if_neg (by omega), gi_up, if_neg (by omega), gi_up, if_neg (by omega), gi_up]
    unfold upO
    by_cases z : r' = r
    · rw [if_pos ⟨rfl, z⟩, if_pos z]
      rfl
    · rw [if_neg (fun w => z w.2), if_neg z]
      exact s5 r' hr'
  · show gi (dm_up (dm_up (dm_up (dm_up ρ 112 r _) 113 r _) 111 S.2.2.2 _) 110 3 _) 113 r' = nI (up1 S.2.2.1 r f r')
    have hn : upO S.2.1 r d r' ≠ none := hn
    rw [gi_up, if_neg (by omega), gi_up, if_neg (by omega), gi_up]
    by_cases z : r' = r
    · rw [if_pos ⟨rfl, z⟩, z, up1_eq]
    · rw [if_neg (fun w => z w.2), up1_ne z, gi_up, if_neg (by omega)]
      unfold upO at hn
      rw [if_neg z] at hn
      exact s6 r' hr' hn
  · show dm_up (dm_up (dm_up (dm_up ρ 112 r _) 113 r _) 111 S.2.2.2 _) 110 3 _ a b = _
    rw [up_get, if_neg (by omega), up_get, if_neg (by omega), up_get, if_neg (by omega), up_get, if_neg (by omega)]
theorem CC_kc {ρ : dm_G} (hPD : (P = 4 ∧ D = 14) ∨ (P = 14 ∧ D = 4)) (hk : (∀ a b, ¬ ((a = 110 ∧ b = 3) ∨ (110 < a ∧ a < 114)) → ρ a b = σ a b)) (hC : CC σ P c) : CC ρ P c := CC_of (fun i hi => funext fun b => hk _ b (by omega)) hC
theorem l_rfT {ρ : dm_G} {S : WS} {is d t : Nat} {v4 : Option Value} (hPD : (P = 4 ∧ D = 14) ∨ (P = 14 ∧ D = 4)) (hC : CC σ P c) (hw : WC c) (hk : (∀ a b, ¬ ((a = 110 ∧ b = 3) ∨ (110 < a ∧ a < 114)) → ρ a b = σ a b)) (hS : wC ρ S) (hI : wI c S) (hi : is < 2 ^ c 0) (hd : S.2.1 is = some d) (hd9 : d < 9) (ht : t < 3) : ∃ ρ' u4, (∀ Q : Option Value → dm_G → Prop, Wq none 73 2 [some (.ref (110 : Nat)), some (.ref P), some (.int (nI is)), some (.int (nI t)), v4] [] ρ Q = Wq none 73 2 [some (.ref (110 : Nat)), some (.ref P), some (.int (nI is)), some (.int (nI (t + 1))), u4] [] ρ' Q) ∧ wC ρ' (wvT c is d t S) ∧ ∀ a b, ¬ ((a = 110 ∧ b = 3) ∨ (110 < a ∧ a < 114)) → ρ' a b = σ a b := by
  have p8 : 2 ^ c 0 ≤ 2 ^ 8 := Nat.pow_le_pow_right (by decide) hw.1
  have hC' := CC_kc hPD hk hC
  have kP := hC.1.1
  obtain ⟨⟨s0, s1, s2⟩, s3, s4, s5, s6⟩ := id hS
  have ht3 : ¬ nI 3 ≤ nI t := nI_ge ht (by omega)
  have hr := endsN_lt (s := is) hw ht (c 0) (Nat.le_refl _)
  have ea := fun Q => c_at (Q := Q) (σ := ρ) kt_112 (show endsN c is t (c 0) < kl 112 by rw [kl_112]; omega) (by rw [kl_112]; omega)
  rw [s5 _ (by omega)] at ea
  have eb := fun Q => c_at (Q := Q) (σ := ρ) kt_112 (show is < kl 112 by rw [kl_112]; omega) (by rw [kl_112]; omega)
  rw [s5 _ (by omega), hd] at eb
  have ec := fun Q => c_at (Q := Q) (σ := ρ) kt_113 (show is < kl 113 by rw [kl_113]; omega) (by rw [kl_113]; omega)
  rw [s6 _ (by omega) (by rw [hd]; exact fun w => by cases w)] at ec
  unfold wvT
  cases hn : S.2.1 (endsN c is t (c 0)) with
  | none =>
    rw [hn] at ea
    obtain ⟨ρ', e1, hS', k'⟩ := c_reach (d := d + 1) (f := S.2.2.1 is * 10 + t + 1) hS (show endsN c is t (c 0) < 256 by omega) (wI_lt hI (by omega) hn)
    refine ⟨ρ', some (.int (nI (endsN c is t (c 0)))), fun Q => ?_, by rw [if_pos rfl]; exact hS', fun a b z => (k' a b z).trans (hk a b z)⟩
    rw [w73_2]
    simp only [w73_0, w73_1, w73_3, w73_4, w73_7, w73_8, w73_9, w73_10, w73_13, w73_15, w73_16, w73_19, w73_21, w73_24, w73_25, w73_28, w73_29, w73_31, w73_32, w73_35, w73_36, w73_39, w73_40, w73_41, w73_42, w73_45, w73_46, w73_49, w73_51, w73_52, w73_53, w73_54, w73_55, w73_56, w73_59, w73_62, w73_65, ks_110, kP, ht3, c_endsOf hC' hw (show is < 2 ^ 31 by omega) ht, s1, s2, ea, eb, ec, oI, pk_mul, nI_add, e1, ↓reduceIte, Option.toList_some, Option.toList_none, List.cons_append, List.nil_append]
  | some e =>
    rw [hn] at ea
    have he := hI.2.1 _ _ hn
    have hm1 : ¬ nI e = -1 := fun q => nI_m1 (show e < 2 ^ 31 by omega) q.symm
    refine ⟨ρ, some (.int (nI (endsN c is t (c 0)))), fun Q => ?_, by rw [if_neg (fun w => by cases w)]; exact hS, hk⟩
    rw [w73_2]
    simp only [w73_0, w73_1, w73_3, w73_4, w73_7, w73_8, w73_9, w73_10, w73_13, w73_15, w73_16, w73_19, w73_21, w73_24, w73_25, w73_28, w73_29, w73_31, w73_32, w73_35, w73_36, w73_39, w73_40, w73_41, w73_42, w73_45, w73_46, w73_49, w73_51, w73_52, w73_53, w73_54, w73_55, w73_56, w73_59, w73_62, w73_65, ks_110, kP, ht3, c_endsOf hC' hw (show is < 2 ^ 31 by omega) ht, s1, ea, oI, hm1, nI_add, ↓reduceIte, Option.toList_some, Option.toList_none, List.cons_append, List.nil_append]
theorem c_reachFromT {ρ : dm_G} {S : WS} {is d : Nat} (hPD : (P = 4 ∧ D = 14) ∨ (P = 14 ∧ D = 4)) (hC : CC σ P c) (hw : WC c) (hk : (∀ a b, ¬ ((a = 110 ∧ b = 3) ∨ (110 < a ∧ a < 114)) → ρ a b = σ a b)) (hS : wC ρ S) (hI : wI c S) (hi : is < 2 ^ c 0) (hd : S.2.1 is = some d) (hd9 : d < 9) : ∃ ρ', (∀ Q : Option Value → dm_G → Prop, Cq 73 [(.ref (110 : Nat)), .ref P, .int (nI is)] ρ Q = Q none ρ') ∧ wC ρ' (wvP c is d S) ∧ wI c (wvP c is d S) ∧ ∀ a b, ¬ ((a = 110 ∧ b = 3) ∨ (110 < a ∧ a < 114)) → ρ' a b = σ a b := by
  obtain ⟨ρ1, u1, e1, hS1, k1⟩ := l_rfT (v4 := none) hPD hC hw hk hS hI hi hd hd9 (show 0 < 3 by omega)
  have hI1 := wI_T (is := is) (d := d) hw hI (show 0 < 3 by omega) hd9
  have hd1 := wvT_st (c := c) (is := is) (d := d) (t := 0) hd
  obtain ⟨ρ2, u2, e2, hS2, k2⟩ := l_rfT (v4 := u1) hPD hC hw k1 hS1 hI1 hi hd1 hd9 (show 1 < 3 by omega)
  have hI2 := wI_T (is := is) (d := d) hw hI1 (show 1 < 3 by omega) hd9
  have hd2 := wvT_st (c := c) (is := is) (d := d) (t := 1) hd1
  obtain ⟨ρ3, u3, e3, hS3, k3⟩ := l_rfT (v4 := u2) hPD hC hw k2 hS2 hI2 hi hd2 hd9 (show 2 < 3 by omega)
  refine ⟨ρ3, fun Q => Cq_of (Er_of ?_), hS3, wI_T hw hI2 (by omega) hd9, k3⟩
  show Wq none 73 0 [some (.ref (110 : Nat)), some (.ref P), some (.int (nI is)), none, none] [] ρ _
  simp only [w73_0, w73_1, w73_3, w73_4, w73_7, w73_8, w73_9, w73_10, w73_13, w73_15, w73_16, w73_19, w73_21, w73_24, w73_25, w73_28, w73_29, w73_31, w73_32, w73_35, w73_36, w73_39, w73_40, w73_41, w73_42, w73_45, w73_46, w73_49, w73_51, w73_52, w73_53, w73_54, w73_55, w73_56, w73_59, w73_62, w73_65, ↓reduceIte, Option.toList_some, Option.toList_none, List.cons_append, List.nil_append]
  rw [e1, e2, e3]
  simp only [w73_0, w73_1, w73_2, w73_3, w73_4, w73_7, w73_8, w73_9, w73_10, w73_13, w73_15, w73_16, w73_19, w73_21, w73_24, w73_25, w73_28, w73_29, w73_31, w73_32, w73_35, w73_36, w73_39, w73_40, w73_41, w73_42, w73_45, w73_46, w73_49, w73_51, w73_52, w73_53, w73_54, w73_55, w73_56, w73_59, w73_62, w73_65, Nat.reduceAdd, (by decide : nI 3 ≤ nI 3), ↓reduceIte, Option.toList_some, Option.toList_none, List.cons_append, List.nil_append, and_self]
theorem l_find {x : Option Nat} {fig s : Nat} (hfig : fig < 2) (hx : ∀ k, x = some k → k < 8) (hPD : (P = 4 ∧ D = 14) ∨ (P = 14 ∧ D = 4)) (hC : CC σ P c) (hw : WC c) : ∀ (f k : Nat) (S : WS) (ρ : dm_G) (v6 : Option Value), k + f = 256 → (∀ a b, ¬ ((a = 110 ∧ b = 3) ∨ (110 < a ∧ a < 114)) → ρ a b = σ a b) → wC ρ S → wI c S → (∀ ρ, (∀ a b, ¬ ((a = 110 ∧ b = 3) ∨ (110 < a ∧ a < 114)) → ρ a b = σ a b) → Q (some (.int (wvR c x fig f k S))) ρ) → Wq none 72 42 [some (.ref (110 : Nat)), some (.ref P), some (.int (nI s)), some (.int (oI x)), some (.int (nI fig)), some (.int (nI k)), v6] [] ρ Q := by
  have p8 : 2 ^ c 0 ≤ 2 ^ 8 := Nat.pow_le_pow_right (by decide) hw.1
  intro f
  induction f with
  | zero =>
    intro k S ρ v6 hkf hk hS hI hq
    obtain rfl : k = 256 := by omega
    rw [w72_42]
    simp only [w72_0, w72_1, w72_3, w72_5, w72_8, w72_11, w72_12, w72_15, w72_17, w72_18, w72_21, w72_24, w72_27, w72_28, w72_29, w72_32, w72_33, w72_34, w72_35, w72_36, w72_39, w72_40, w72_44, w72_47, w72_50, w72_52, w72_53, w72_56, w72_59, w72_60, w72_63, w72_65, w72_68, w72_70, w72_72, w72_73, w72_76, w72_79, w72_81, w72_84, w72_85, w72_88, w72_91, w72_92, w72_95, w72_97, w72_100, w72_101, w72_102, w72_105, w72_107, w72_110, w72_112, w72_115, w72_116, w72_117, w72_119, w72_122, w72_125, w72_128, w72_129, (by decide : nI 256 ≤ nI 256), ↓reduceIte, Option.toList_some, Option.toList_none, List.cons_append, List.nil_append]
    exact hq ρ hk
  | succ f ih =>
    intro k S ρ v6 hkf hk hS hI hq
    obtain ⟨⟨s0, s1, s2⟩, s3, s4, s5, s6⟩ := id hS
    have h1 : ¬ nI 256 ≤ nI k := nI_ge (by omega) (by omega)
    have hle := wI_le hI
    rw [w72_42]
    by_cases hkw : k < S.2.2.2
    · have h2 : ¬ nI S.2.2.2 ≤ nI k := nI_ge hkw (by omega)
      obtain ⟨hq8, hne⟩ := hI.1 k hkw
      have ea := fun Q => c_at (Q := Q) (σ := ρ) kt_111 (show k < kl 111 by rw [kl_111]; omega) (by rw [kl_111]; omega)
      rw [s4 k hkw] at ea
      have eb := fun Q => c_at (Q := Q) (σ := ρ) kt_112 (show S.1 k < kl 112 by rw [kl_112]; omega) (by rw [kl_112]; omega)
      rw [s5 _ (by omega)] at eb
      have ec := fun Q => c_at (Q := Q) (σ := ρ) kt_113 (show S.1 k < kl 113 by rw [kl_113]; omega) (by rw [kl_113]; omega)
      rw [s6 _ (by omega) hne] at ec
      have hq' := hq
      rw [wvS] at hq
      rw [if_pos hkw] at hq
      by_cases hE : isE x (S.1 k) = true
      · rw [if_pos hE] at hq
        by_cases hf : fig = 0
        · subst hf
          rw [if_pos rfl] at hq
          simp only [w72_0, w72_1, w72_3, w72_5, w72_8, w72_11, w72_12, w72_15, w72_17, w72_18, w72_21, w72_24, w72_27, w72_28, w72_29, w72_32, w72_33, w72_34, w72_35, w72_36, w72_39, w72_40, w72_44, w72_47, w72_50, w72_52, w72_53, w72_56, w72_59, w72_60, w72_63, w72_65, w72_68, w72_70, w72_72, w72_73, w72_76, w72_79, w72_81, w72_84, w72_85, w72_88, w72_91, w72_92, w72_95, w72_97, w72_100, w72_101, w72_102, w72_105, w72_107, w72_110, w72_112, w72_115, w72_116, w72_117, w72_119, w72_122, w72_125, w72_128, w72_129, ks_110, h1, h2, s0, s1, s3, ea, eb, c_isFound (show S.1 k < 256 by omega) hx, hE, nI_ne1, ↓reduceIte, Option.toList_some, Option.toList_none, List.cons_append, List.nil_append]
          exact hq ρ hk
        · obtain rfl : fig = 1 := by omega
          rw [if_neg (by omega)] at hq
          simp only [w72_0, w72_1, w72_3, w72_5, w72_8, w72_11, w72_12, w72_15, w72_17, w72_18, w72_21, w72_24, w72_27, w72_28, w72_29, w72_32, w72_33, w72_34, w72_35, w72_36, w72_39, w72_40, w72_44, w72_47, w72_50, w72_52, w72_53, w72_56, w72_59, w72_60, w72_63, w72_65, w72_68, w72_70, w72_72, w72_73, w72_76, w72_79, w72_81, w72_84, w72_85, w72_88, w72_91, w72_92, w72_95, w72_97, w72_100, w72_101, w72_102, w72_105, w72_107, w72_110, w72_112, w72_115, w72_116, w72_117, w72_119, w72_122, w72_125, w72_128, w72_129, ks_110, h1, h2, s0, s2, s3, ea, ec, c_isFound (show S.1 k < 256 by omega) hx, hE, nI_ne1, ↓reduceIte, Option.toList_some, Option.toList_none, List.cons_append, List.nil_append]
          exact hq ρ hk
      · rw [if_neg hE] at hq
        cases hd : S.2.1 (S.1 k) with
        | none => exact absurd hd hne
        | some d =>
          rw [hd] at eb hq
          have hd9 := hI.2.1 _ _ hd
          by_cases hl : d < 9
          · rw [if_pos (show dO (some d) < 9 from hl)] at hq
            have h3 : ¬ nI 9 ≤ nI d := nI_ge hl (by omega)
            obtain ⟨ρ', e1, hS', hI', k'⟩ := c_reachFromT hPD hC hw hk hS hI hq8 hd hl
            simp only [w72_0, w72_1, w72_3, w72_5, w72_8, w72_11, w72_12, w72_15, w72_17, w72_18, w72_21, w72_24, w72_27, w72_28, w72_29, w72_32, w72_33, w72_34, w72_35, w72_36, w72_39, w72_40, w72_44, w72_47, w72_50, w72_52, w72_53, w72_56, w72_59, w72_60, w72_63, w72_65, w72_68, w72_70, w72_72, w72_73, w72_76, w72_79, w72_81, w72_84, w72_85, w72_88, w72_91, w72_92, w72_95, w72_97, w72_100, w72_101, w72_102, w72_105, w72_107, w72_110, w72_112, w72_115, w72_116, w72_117, w72_119, w72_122, w72_125, w72_128, w72_129, ks_110, h1, h2, s0, s1, s3, ea, eb, oIs, h3, c_isFound (show S.1 k < 256 by omega) hx, hE, e1, nI_add, ↓reduceIte, Option.toList_some, Option.toList_none, List.cons_append, List.nil_append, Bool.false_eq_true]
            exact ih (k + 1) _ ρ' _ (by omega) k' hS' hI' hq
          · rw [if_neg (show ¬ dO (some d) < 9 from hl)] at hq
            have h3 : nI 9 ≤ nI d := nI_le (by omega) (by omega)
            simp only [w72_0, w72_1, w72_3, w72_5, w72_8, w72_11, w72_12, w72_15, w72_17, w72_18, w72_21, w72_24, w72_27, w72_28, w72_29, w72_32, w72_33, w72_34, w72_35, w72_36, w72_39, w72_40, w72_44, w72_47, w72_50, w72_52, w72_53, w72_56, w72_59, w72_60, w72_63, w72_65, w72_68, w72_70, w72_72, w72_73, w72_76, w72_79, w72_81, w72_84, w72_85, w72_88, w72_91, w72_92, w72_95, w72_97, w72_100, w72_101, w72_102, w72_105, w72_107, w72_110, w72_112, w72_115, w72_116, w72_117, w72_119, w72_122, w72_125, w72_128, w72_129, ks_110, h1, h2, s0, s1, s3, ea, eb, oIs, h3, c_isFound (show S.1 k < 256 by omega) hx, hE, nI_add, ↓reduceIte, Option.toList_some, Option.toList_none, List.cons_append, List.nil_append, Bool.false_eq_true]
            exact ih (k + 1) _ ρ _ (by omega) hk hS hI hq
    · have h2 : nI S.2.2.2 ≤ nI k := nI_le (by omega) (by omega)
      simp only [w72_0, w72_1, w72_3, w72_5, w72_8, w72_11, w72_12, w72_15, w72_17, w72_18, w72_21, w72_24, w72_27, w72_28, w72_29, w72_32, w72_33, w72_34, w72_35, w72_36, w72_39, w72_40, w72_44, w72_47, w72_50, w72_52, w72_53, w72_56, w72_59, w72_60, w72_63, w72_65, w72_68, w72_70, w72_72, w72_73, w72_76, w72_79, w72_81, w72_84, w72_85, w72_88, w72_91, w72_92, w72_95, w72_97, w72_100, w72_101, w72_102, w72_105, w72_107, w72_110, w72_112, w72_115, w72_116, w72_117, w72_119, w72_122, w72_125, w72_128, w72_129, ks_110, h1, h2, s3, ↓reduceIte, Option.toList_some, Option.toList_none, List.cons_append, List.nil_append]
      rw [wvS, if_neg hkw] at hq
      exact hq ρ hk
theorem l_find0 {v1 v2 v3 v4 v6 : Option Value} (hSc : cSc σ) (kk : ∀ ρ, (∀ a b, ¬ ((a = 110 ∧ b = 3) ∨ (110 < a ∧ a < 114)) → ρ a b = σ a b) → (∀ r, r < 256 → gi ρ 112 r = -1) → Wq none 72 27 [some (.ref (110 : Nat)), v1, v2, v3, v4, some (.int (nI 256)), v6] [] ρ Q) : ∀ (f i : Nat) (ρ : dm_G), i + f = 256 → (∀ a b, ¬ ((a = 110 ∧ b = 3) ∨ (110 < a ∧ a < 114)) → ρ a b = σ a b) → (∀ r, r < i → gi ρ 112 r = -1) → Wq none 72 3 [some (.ref (110 : Nat)), v1, v2, v3, v4, some (.int (nI i)), v6] [] ρ Q := by
  intro f
  induction f with
  | zero =>
    intro i ρ hi hk h0
    obtain rfl : i = 256 := by omega
    rw [w72_3]
    simp only [w72_0, w72_1, w72_5, w72_8, w72_11, w72_12, w72_15, w72_17, w72_18, w72_21, w72_24, w72_28, w72_29, w72_32, w72_33, w72_34, w72_35, w72_36, w72_39, w72_40, w72_42, w72_44, w72_47, w72_50, w72_52, w72_53, w72_56, w72_59, w72_60, w72_63, w72_65, w72_68, w72_70, w72_72, w72_73, w72_76, w72_79, w72_81, w72_84, w72_85, w72_88, w72_91, w72_92, w72_95, w72_97, w72_100, w72_101, w72_102, w72_105, w72_107, w72_110, w72_112, w72_115, w72_116, w72_117, w72_119, w72_122, w72_125, w72_128, w72_129, (by decide : nI 256 ≤ nI 256), ↓reduceIte, Option.toList_some, Option.toList_none, List.cons_append, List.nil_append]
    exact kk ρ hk h0
  | succ f ih =>
    intro i ρ hi hk h0
    have h1 : ¬ nI 256 ≤ nI i := nI_ge (by omega) (by omega)
    have s1 : ρ 110 1 = (.ref (112 : Nat)) := (hk _ _ (by omega)).trans hSc.2.1
    rw [w72_3]
    simp only [w72_0, w72_1, w72_5, w72_8, w72_11, w72_12, w72_15, w72_17, w72_18, w72_21, w72_24, w72_28, w72_29, w72_32, w72_33, w72_34, w72_35, w72_36, w72_39, w72_40, w72_42, w72_44, w72_47, w72_50, w72_52, w72_53, w72_56, w72_59, w72_60, w72_63, w72_65, w72_68, w72_70, w72_72, w72_73, w72_76, w72_79, w72_81, w72_84, w72_85, w72_88, w72_91, w72_92, w72_95, w72_97, w72_100, w72_101, w72_102, w72_105, w72_107, w72_110, w72_112, w72_115, w72_116, w72_117, w72_119, w72_122, w72_125, w72_128, w72_129, ks_110, h1, s1, c_put kt_112 (show i < kl 112 by rw [kl_112]; omega) (by rw [kl_112]; omega), nI_add, ↓reduceIte, Option.toList_some, Option.toList_none, List.cons_append, List.nil_append]
    refine ih (i + 1) _ (by omega) (fun a b z => by rw [up_get, if_neg (by omega), hk a b z]) (fun r hr => ?_)
    rw [gi_up]
    by_cases z : r = i
    · rw [if_pos ⟨rfl, z⟩]
    · rw [if_neg (fun w => z w.2)]
      exact h0 r (by omega)
/-- the search's answer -/
def wvF (c : Nat → Nat) (x : Option Nat) (fig s : Nat) : Int32 := wvR c x fig 256 0 (wvA wv0 s 0 0)
theorem c_find {x : Option Nat} {fig s : Nat} (hfig : fig < 2) (hx : ∀ k, x = some k → k < 8) (hPD : (P = 4 ∧ D = 14) ∨ (P = 14 ∧ D = 4)) (hC : CC σ P c) (hw : WC c) (hSc : cSc σ) (hs : s < 2 ^ c 0) (hq : ∀ ρ, (∀ a b, ¬ ((a = 110 ∧ b = 3) ∨ (110 < a ∧ a < 114)) → ρ a b = σ a b) → Q (some (.int (wvF c x fig s))) ρ) : Wq none 72 0 [some (.ref (110 : Nat)), some (.ref P), some (.int (nI s)), some (.int (oI x)), some (.int (nI fig)), none, none] [] σ Q := by
  have p8 : 2 ^ c 0 ≤ 2 ^ 8 := Nat.pow_le_pow_right (by decide) hw.1
  simp only [w72_0, w72_1, w72_5, w72_8, w72_11, w72_12, w72_15, w72_17, w72_18, w72_21, w72_24, w72_28, w72_29, w72_32, w72_33, w72_34, w72_35, w72_36, w72_39, w72_40, w72_44, w72_47, w72_50, w72_52, w72_53, w72_56, w72_59, w72_60, w72_63, w72_65, w72_68, w72_70, w72_72, w72_73, w72_76, w72_79, w72_81, w72_84, w72_85, w72_88, w72_91, w72_92, w72_95, w72_97, w72_100, w72_101, w72_102, w72_105, w72_107, w72_110, w72_112, w72_115, w72_116, w72_117, w72_119, w72_122, w72_125, w72_128, w72_129, ↓reduceIte, Option.toList_some, Option.toList_none, List.cons_append, List.nil_append]
  refine l_find0 hSc (fun ρ hk h0 => ?_) 256 0 σ (by omega) (fun a b _ => rfl) (fun r hr => absurd hr (by omega))
  have k1 : ∀ a b, ¬ ((a = 110 ∧ b = 3) ∨ (110 < a ∧ a < 114)) → dm_up ρ 110 3 (.int (nI 0)) a b = σ a b := fun a b z => by rw [up_get, if_neg (by omega), hk a b z]
  have hS0 : wC (dm_up ρ 110 3 (.int (nI 0))) wv0 := by
    refine ⟨⟨(k1 _ _ (by omega)).trans hSc.1, (k1 _ _ (by omega)).trans hSc.2.1, (k1 _ _ (by omega)).trans hSc.2.2.1⟩, rfl, fun i hi => absurd hi (Nat.not_lt_zero i), fun r hr => ?_, fun r hr hn => absurd rfl hn⟩
    rw [gi_up, if_neg (by omega)]
    exact h0 r hr
  obtain ⟨ρ', e1, hS', k'⟩ := c_reach (d := 0) (f := 0) (r := s) hS0 (by omega) (show 0 < 256 by omega)
  simp only [w72_0, w72_1, w72_3, w72_5, w72_8, w72_11, w72_12, w72_15, w72_17, w72_18, w72_21, w72_24, w72_27, w72_28, w72_29, w72_32, w72_33, w72_34, w72_35, w72_36, w72_39, w72_40, w72_44, w72_47, w72_50, w72_52, w72_53, w72_56, w72_59, w72_60, w72_63, w72_65, w72_68, w72_70, w72_72, w72_73, w72_76, w72_79, w72_81, w72_84, w72_85, w72_88, w72_91, w72_92, w72_95, w72_97, w72_100, w72_101, w72_102, w72_105, w72_107, w72_110, w72_112, w72_115, w72_116, w72_117, w72_119, w72_122, w72_125, w72_128, w72_129, ks_110, e1, ↓reduceIte, Option.toList_some, Option.toList_none, List.cons_append, List.nil_append]
  exact l_find (s := s) hfig hx hPD hC hw 256 0 (wvA wv0 s 0 0) ρ' none (by omega) (fun a b z => (k' a b z).trans (k1 a b z)) hS' (wI_A hw wI_0 hs rfl (by omega)) hq
end WV
