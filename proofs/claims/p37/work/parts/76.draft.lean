/-! the text: the class's draft of a city -/
def upN (rd : Nat → Nat) (j v : Nat) : Nat → Nat := fun i => if i = j then v else rd i
theorem upN_y {rd : Nat → Nat} {j v : Nat} : upN rd j v j = v := if_pos rfl
theorem upN_n {rd : Nat → Nat} {j v i : Nat} (h : ¬ i = j) : upN rd j v i = rd i := if_neg h
def scF (D x s a b c : Nat) (ρ : dm_G) : dm_G := dm_up (dm_up (dm_up (dm_up (dm_up ρ (D + 1) x (.int (nI s))) (D + 2) (x * 3) (.int (nI a))) (D + 2) (x * 3 + 1) (.int (nI b))) (D + 2) (x * 3 + 2) (.int (nI c))) (D + 3) x (.int (nI (1 <<< a ||| 1 <<< b ||| 1 <<< c)))
def scL (D : Nat) : Nat → dm_G → dm_G := fun n => match n with
  | 0 => fun ρ => ρ
  | x + 1 => fun ρ => scF D x 0 x x x (scL D x ρ)
/-- the draft, with how many crossings were told -/
def DC (ρ : dm_G) (D : Nat) (rd : Nat → Nat) : Prop := CC ρ D rd ∧ ρ D 1 = .int (nI (rd 1))
section DR
variable {ρ : dm_G} {D : Nat} {rd : Nat → Nat} {Q : Option Value → dm_G → Prop}
theorem scF_o {x s a b c i j : Nat} (h : ¬ (D + 1 ≤ i ∧ i ≤ D + 3)) : scF D x s a b c ρ i j = ρ i j := by
  unfold scF
  rw [up_get, if_neg (by omega), up_get, if_neg (by omega), up_get, if_neg (by omega), up_get, if_neg (by omega), up_get, if_neg (by omega)]
theorem scL_o {i j : Nat} (h : ¬ (D + 1 ≤ i ∧ i ≤ D + 3)) : ∀ N, scL D N ρ i j = ρ i j := by
  intro N
  induction N with
  | zero => rfl
  | succ N ih => exact (scF_o h).trans ih
theorem scF_1 {x s a b c i : Nat} : gi (scF D x s a b c ρ) (D + 1) i = if i = x then nI s else gi ρ (D + 1) i := by
  unfold scF
  rw [gi_up, if_neg (by omega), gi_up, if_neg (by omega), gi_up, if_neg (by omega), gi_up, if_neg (by omega), gi_up]
  simp
theorem scF_2 {x s a b c i : Nat} : gi (scF D x s a b c ρ) (D + 2) i = if i = x * 3 + 2 then nI c else if i = x * 3 + 1 then nI b else if i = x * 3 then nI a else gi ρ (D + 2) i := by
  unfold scF
  rw [gi_up, if_neg (by omega), gi_up, gi_up, gi_up, gi_up, if_neg (show ¬ (D + 2 = D + 1 ∧ i = x) by omega)]
  simp
theorem scF_3 {x s a b c i : Nat} : gi (scF D x s a b c ρ) (D + 3) i = if i = x then nI (1 <<< a ||| 1 <<< b ||| 1 <<< c) else gi ρ (D + 3) i := by
  unfold scF
  rw [gi_up, gi_up, if_neg (show ¬ (D + 3 = D + 2 ∧ i = x * 3 + 2) by omega), gi_up, if_neg (show ¬ (D + 3 = D + 2 ∧ i = x * 3 + 1) by omega), gi_up, if_neg (show ¬ (D + 3 = D + 2 ∧ i = x * 3) by omega), gi_up, if_neg (show ¬ (D + 3 = D + 1 ∧ i = x) by omega)]
  simp
theorem scL_v {x : Nat} : ∀ N, x < N → gi (scL D N ρ) (D + 1) x = nI 0 ∧ (∀ t, t < 3 → gi (scL D N ρ) (D + 2) (3 * x + t) = nI x) ∧ gi (scL D N ρ) (D + 3) x = nI (1 <<< x ||| 1 <<< x ||| 1 <<< x) := by
  intro N
  induction N with
  | zero => intro h; omega
  | succ N ih =>
    intro h
    show gi (scF D N 0 N N N (scL D N ρ)) (D + 1) x = nI 0 ∧ (∀ t, t < 3 → gi (scF D N 0 N N N (scL D N ρ)) (D + 2) (3 * x + t) = nI x) ∧ gi (scF D N 0 N N N (scL D N ρ)) (D + 3) x = _
    by_cases z : x = N
    · subst z
      refine ⟨by rw [scF_1, if_pos rfl], fun t ht => ?_, by rw [scF_3, if_pos rfl]⟩
      rw [scF_2]
      split
      · rfl
      · split
        · rfl
        · split
          · rfl
          · omega
    · obtain ⟨a1, a2, a3⟩ := ih (by omega)
      refine ⟨by rw [scF_1, if_neg z]; exact a1, fun t ht => ?_, by rw [scF_3, if_neg z]; exact a3⟩
      rw [scF_2, if_neg (by omega), if_neg (by omega), if_neg (by omega)]
      exact a2 t ht
theorem c_setX {x s a b c : Nat} (hP : CK D) (hR : CR ρ D) (hx : x < 8) (ha : a < 8) (hb : b < 8) (hc : c < 8) : Cq 7 [.ref D, .int (nI x), .int (nI s), .int (nI a), .int (nI b), .int (nI c)] ρ Q = Q none (scF D x s a b c ρ) := by
  obtain ⟨kP, ⟨t1, l1⟩, ⟨t2, l2⟩, ⟨t3, l3⟩, ⟨t4, l4⟩, ⟨t5, l5⟩, ⟨t6, l6⟩, ⟨t7, l7⟩, ⟨t8, l8⟩, ⟨t9, l9⟩⟩ := id hP
  obtain ⟨r1, r2, r3, r4, r5, r6, r7, r8, r9⟩ := id hR
  have o1 : ¬ D = D + 1 := by omega
  have o2 : ¬ D = D + 2 := by omega
  have c1 : x < kl (D + 1) := by omega
  have c2 : x * 3 < kl (D + 2) := by omega
  have c3 : x * 3 + 1 < kl (D + 2) := by omega
  have c4 : x * 3 + 2 < kl (D + 2) := by omega
  have c5 : x < kl (D + 3) := by omega
  refine Cq_of (Er_of ?_)
  show Wq none 7 0 [some (.ref D), some (.int (nI x)), some (.int (nI s)), some (.int (nI a)), some (.int (nI b)), some (.int (nI c))] [] ρ _
  simp only [w7_0, w7_1, w7_4, w7_5, w7_6, w7_9, w7_10, w7_13, w7_14, w7_15, w7_16, w7_17, w7_20, w7_21, w7_24, w7_25, w7_26, w7_27, w7_28, w7_29, w7_31, w7_34, w7_35, w7_38, w7_39, w7_40, w7_41, w7_42, w7_43, w7_45, w7_48, w7_49, w7_52, w7_53, w7_54, w7_55, w7_56, w7_57, w7_59, w7_60, w7_61, w7_62, w7_64, w7_65, w7_66, w7_69, kP, r1, r2, r3, up_get, o1, o2, false_and, pk_mul, nI_add, c_put t1 c1 (by omega), c_put t2 c2 (by omega), c_put t2 c3 (by omega), c_put t2 c4 (by omega), c_put t3 c5 (by omega), nI_shl 1 (show a < 32 by omega), nI_shl 1 (show b < 32 by omega), nI_shl 1 (show c < 32 by omega), nI_or, ↓reduceIte, Option.toList_some, Option.toList_none, List.cons_append, List.nil_append]
  exact ⟨trivial, rfl⟩
def swB (D N : Nat) (ρ : dm_G) : dm_G := dm_up (dm_up (dm_up (dm_up (dm_up (dm_up ρ D 0 (.int (nI N))) D 1 (.int (nI 0))) D 2 (.int (nI 0))) D 3 (.int (nI 0))) D 4 (.int (nI 0))) (D + 9) 0 (.int (nI 0))
theorem swB_o {N i j : Nat} (h : ¬ (i = D ∧ j < 5) ∧ ¬ i = D + 9) : swB D N ρ i j = ρ i j := by
  unfold swB
  rw [up_get, if_neg (by omega), up_get, if_neg (by omega), up_get, if_neg (by omega), up_get, if_neg (by omega), up_get, if_neg (by omega), up_get, if_neg (by omega)]
theorem CR_o {σ : dm_G} (h : ∀ j, 5 ≤ j → σ D j = ρ D j) (hR : CR ρ D) : CR σ D := by
  obtain ⟨r1, r2, r3, r4, r5, r6, r7, r8, r9⟩ := hR
  exact ⟨(h 5 (by omega)).trans r1, (h 6 (by omega)).trans r2, (h 7 (by omega)).trans r3, (h 8 (by omega)).trans r4, (h 9 (by omega)).trans r5, (h 10 (by omega)).trans r6, (h 11 (by omega)).trans r7, (h 12 (by omega)).trans r8, (h 13 (by omega)).trans r9⟩
theorem c_swN {N : Nat} (hP : CK D) (hR : CR ρ D) (hN : N ≤ 8) : Cq 5 [.ref D, .int (nI N)] ρ Q = Q none (scL D N (swB D N ρ)) := by
  obtain ⟨kP, ⟨t1, l1⟩, ⟨t2, l2⟩, ⟨t3, l3⟩, ⟨t4, l4⟩, ⟨t5, l5⟩, ⟨t6, l6⟩, ⟨t7, l7⟩, ⟨t8, l8⟩, ⟨t9, l9⟩⟩ := id hP
  obtain ⟨r1, r2, r3, r4, r5, r6, r7, r8, r9⟩ := id hR
  have c9 : 0 < kl (D + 9) := by omega
  have key : ∀ (Q : Option Value → dm_G → Prop) (k x : Nat), x + k = N → Wq none 5 36 [some (.ref D), some (.int (nI N)), some (.int (nI x))] [] (scL D x (swB D N ρ)) Q = Q none (scL D N (swB D N ρ)) := by
    intro Q k
    induction k with
    | zero =>
      intro x hx
      obtain rfl : x = N := by omega
      have h1 : nI x ≤ nI x := nI_le (Nat.le_refl _) (by omega)
      rw [w5_36]
      simp only [w5_0, w5_1, w5_2, w5_5, w5_6, w5_7, w5_10, w5_11, w5_12, w5_15, w5_16, w5_17, w5_20, w5_21, w5_22, w5_25, w5_26, w5_29, w5_30, w5_31, w5_34, w5_35, w5_37, w5_38, w5_41, w5_42, w5_43, w5_44, w5_45, w5_46, w5_47, w5_50, w5_53, w5_56, h1, ↓reduceIte, Option.toList_some, Option.toList_none, List.cons_append, List.nil_append]
    | succ k ih =>
      intro x hx
      have h1 : ¬ nI N ≤ nI x := nI_ge (by omega) (by omega)
      have hR2 : CR (scL D x (swB D N ρ)) D := CR_o (fun j hj => (scL_o (by omega) x).trans (swB_o (by omega))) hR
      rw [w5_36]
      simp only [w5_0, w5_1, w5_2, w5_5, w5_6, w5_7, w5_10, w5_11, w5_12, w5_15, w5_16, w5_17, w5_20, w5_21, w5_22, w5_25, w5_26, w5_29, w5_30, w5_31, w5_34, w5_35, w5_37, w5_38, w5_41, w5_42, w5_43, w5_44, w5_45, w5_46, w5_47, w5_50, w5_53, w5_56, kP, h1, c_setX hP hR2 (show x < 8 by omega) (show x < 8 by omega) (show x < 8 by omega) (show x < 8 by omega), nI_add, ↓reduceIte, Option.toList_some, Option.toList_none, List.cons_append, List.nil_append]
      exact ih (x + 1) (by omega)
  refine Cq_of (Er_of ?_)
  show Wq none 5 0 [some (.ref D), some (.int (nI N)), none] [] ρ _
  simp only [w5_0, w5_1, w5_2, w5_5, w5_6, w5_7, w5_10, w5_11, w5_12, w5_15, w5_16, w5_17, w5_20, w5_21, w5_22, w5_25, w5_26, w5_29, w5_30, w5_31, w5_34, w5_35, w5_37, w5_38, w5_41, w5_42, w5_43, w5_44, w5_45, w5_46, w5_47, w5_50, w5_53, w5_56, kP, up_get, r9, show ¬ (13 = 4) by omega, show ¬ (13 = 3) by omega, show ¬ (13 = 2) by omega, show ¬ (13 = 1) by omega, show ¬ (13 = 0) by omega, and_false, c_put t9 c9 (by omega), ↓reduceIte, Option.toList_some, Option.toList_none, List.cons_append, List.nil_append]
  have h := key (fun r' σ2 => r' = none ∧ σ2 = scL D N (swB D N ρ)) N 0 (by omega)
  exact Eq.mpr h ⟨rfl, rfl⟩
/-- behind it: all crossings lead to themselves -/
def cwN (N : Nat) : Nat → Nat := fun i => if i = 0 then N else if 13 ≤ i ∧ i < 37 then (i - 13) / 3 else 0
theorem DC_sw {N : Nat} (hP : CK D) (hR : CR ρ D) (hN : N ≤ 8) : DC (scL D N (swB D N ρ)) D (cwN N) := by
  have hf : ∀ j, scL D N (swB D N ρ) D j = swB D N ρ D j := fun j => scL_o (by omega) N
  have hb : ∀ j v, swB D N ρ D j = v → scL D N (swB D N ρ) D j = v := fun j v h => (hf j).trans h
  have e0 : swB D N ρ D 0 = .int (nI N) := by
    unfold swB
    rw [up_get, if_neg (by omega), up_get, if_neg (by omega), up_get, if_neg (by omega), up_get, if_neg (by omega), up_get, if_neg (by omega), up_get, if_pos ⟨rfl, rfl⟩]
  have e1 : swB D N ρ D 1 = .int (nI 0) := by
    unfold swB
    rw [up_get, if_neg (by omega), up_get, if_neg (by omega), up_get, if_neg (by omega), up_get, if_neg (by omega), up_get, if_pos ⟨rfl, rfl⟩]
  have e2 : swB D N ρ D 2 = .int (nI 0) := by
    unfold swB
    rw [up_get, if_neg (by omega), up_get, if_neg (by omega), up_get, if_neg (by omega), up_get, if_pos ⟨rfl, rfl⟩]
  have e3 : swB D N ρ D 3 = .int (nI 0) := by
    unfold swB
    rw [up_get, if_neg (by omega), up_get, if_neg (by omega), up_get, if_pos ⟨rfl, rfl⟩]
  have e4 : swB D N ρ D 4 = .int (nI 0) := by
    unfold swB
    rw [up_get, if_neg (by omega), up_get, if_pos ⟨rfl, rfl⟩]
  refine ⟨⟨hP, CR_o (fun j hj => (hf j).trans (swB_o (by omega))) hR, ⟨hb _ _ e0, hb _ _ e2, hb _ _ e3, hb _ _ e4⟩, fun x hx => ?_, fun i hi => ?_, fun x hx => ?_, fun g hg => ?_, fun e he => ?_, fun i hi => ?_, fun _ => ?_⟩, hb _ _ e1⟩
  · have hx : x < N := hx
    rw [(scL_v N hx).1]
    unfold cwN
    rw [if_neg (by omega), if_neg (by omega)]
  · have hi : i < 3 * N := hi
    have h := (scL_v (D := D) (ρ := swB D N ρ) (x := i / 3) N (by omega)).2.1 (i % 3) (by omega)
    rw [show 3 * (i / 3) + i % 3 = i by omega] at h
    rw [h]
    unfold cwN
    rw [if_neg (by omega)]
    rw [if_pos (by omega), show 13 + i - 13 = i by omega]
  · have hx : x < N := hx
    have hv : ∀ t, t < 3 → cwN N (13 + 3 * x + t) = x := fun t ht => by
      unfold cwN
      rw [if_neg (by omega), if_pos (by omega)]
      omega
    have h0 : cwN N (13 + 3 * x) = x := hv 0 (by omega)
    rw [(scL_v N hx).2.2, nxs, h0, hv 1 (by omega), hv 2 (by omega)]
  · exact absurd hg (Nat.not_lt_zero _)
  · exact absurd he (Nat.not_lt_zero _)
  · exact absurd hi (Nat.not_lt_zero _)
  · refine (gi_of (scL_o (by omega) N)).trans ?_
    unfold swB
    rw [gi_up, if_pos ⟨rfl, rfl⟩]
def adX (D t s a b c : Nat) (ρ : dm_G) : dm_G := dm_up (scF D t s a b c ρ) D 1 (.int (nI (t + 1)))
def rdX (rd : Nat → Nat) (s a b c : Nat) : Nat → Nat := upN (upN (upN (upN (upN rd 1 (rd 1 + 1)) (5 + rd 1) s) (13 + 3 * rd 1) a) (13 + 3 * rd 1 + 1) b) (13 + 3 * rd 1 + 2) c
theorem c_addX {s a b c : Nat} (hC : DC ρ D rd) (hx : rd 1 < 8) (ha : a < 8) (hb : b < 8) (hc : c < 8) : Cq 6 [.ref D, .int (nI s), .int (nI a), .int (nI b), .int (nI c)] ρ Q = Q none (adX D (rd 1) s a b c ρ) := by
  obtain ⟨hCC, h1⟩ := hC
  have kP := hCC.1.1
  have h1' : scF D (rd 1) s a b c ρ D 1 = .int (nI (rd 1)) := (scF_o (by omega)).trans h1
  refine Cq_of (Er_of ?_)
  show Wq none 6 0 [some (.ref D), some (.int (nI s)), some (.int (nI a)), some (.int (nI b)), some (.int (nI c))] [] ρ _
  simp only [w6_0, w6_1, w6_2, w6_5, w6_6, w6_7, w6_8, w6_10, w6_13, w6_14, w6_14i, w6_15, w6_18, w6_19, w6_20, w6_23, kP, h1, c_setX hCC.1 hCC.2.1 hx ha hb hc, h1', nI_add, ↓reduceIte, Option.toList_some, Option.toList_none, List.cons_append, List.nil_append]
  exact ⟨trivial, rfl⟩
theorem DC_aX {s a b c : Nat} (hC : DC ρ D rd) (hx : rd 1 < 8) (h0 : rd 0 ≤ 8) : DC (adX D (rd 1) s a b c ρ) D (rdX rd s a b c) := by
  obtain ⟨⟨hP, hR, ⟨i0, i2, i3, i4⟩, f1, f2, f3, f4, f5, f6, f7⟩, h1⟩ := hC
  have fD : ∀ j, ¬ j = 1 → adX D (rd 1) s a b c ρ D j = ρ D j := fun j hj => by
    unfold adX
    rw [up_get, if_neg (by omega), scF_o (by omega)]
  have fo : ∀ i j, D + 4 ≤ i → gi (adX D (rd 1) s a b c ρ) i j = gi ρ i j := fun i j hj => gi_of (by
    unfold adX
    rw [up_get, if_neg (by omega), scF_o (by omega)])
  have fs : ∀ i j, D < i → gi (adX D (rd 1) s a b c ρ) i j = gi (scF D (rd 1) s a b c ρ) i j := fun i j hj => gi_of (by
    unfold adX
    rw [up_get, if_neg (by omega)])
  have rl : ∀ i, 37 ≤ i → rdX rd s a b c i = rd i := fun i hi => by
    unfold rdX
    rw [upN_n (by omega), upN_n (by omega), upN_n (by omega), upN_n (by omega), upN_n (by omega)]
  have rs : ∀ i, i < 5 → ¬ i = 1 → rdX rd s a b c i = rd i := fun i hi h2 => by
    unfold rdX
    rw [upN_n (by omega), upN_n (by omega), upN_n (by omega), upN_n (by omega), upN_n (by omega)]
  have r5 : ∀ x, x < 8 → rdX rd s a b c (5 + x) = if x = rd 1 then s else rd (5 + x) := fun x hx => by
    unfold rdX
    rw [upN_n (by omega), upN_n (by omega), upN_n (by omega)]
    by_cases z : x = rd 1
    · rw [if_pos z, z, upN_y]
    · rw [if_neg z, upN_n (by omega), upN_n (by omega)]
  have r13 : ∀ i, rdX rd s a b c (13 + i) = if i = rd 1 * 3 + 2 then c else if i = rd 1 * 3 + 1 then b else if i = rd 1 * 3 then a else rd (13 + i) := fun i => by
    unfold rdX
    by_cases z2 : i = rd 1 * 3 + 2
    · rw [if_pos z2, show 13 + i = 13 + 3 * rd 1 + 2 by omega, upN_y]
    · rw [if_neg z2, upN_n (by omega)]
      by_cases z1 : i = rd 1 * 3 + 1
      · rw [if_pos z1, show 13 + i = 13 + 3 * rd 1 + 1 by omega, upN_y]
      · rw [if_neg z1, upN_n (by omega)]
        by_cases z0 : i = rd 1 * 3
        · rw [if_pos z0, show 13 + i = 13 + 3 * rd 1 by omega, upN_y]
        · rw [if_neg z0, upN_n (by omega), upN_n (by omega), upN_n (by omega)]
  have e0 := rs 0 (by omega) (by omega)
  have e2 := rs 2 (by omega) (by omega)
  have e3 := rs 3 (by omega) (by omega)
  have e4 := rs 4 (by omega) (by omega)
  refine ⟨⟨hP, CR_o (fun j hj => fD j (by omega)) hR, ⟨?_, ?_, ?_, ?_⟩, fun x hx => ?_, fun i hi => ?_, fun x hx => ?_, fun g hg => ?_, fun e he => ?_, fun i hi => ?_, fun h4 => ?_⟩, ?_⟩
  · rw [fD 0 (by omega), e0, i0]
  · rw [fD 2 (by omega), e2, i2]
  · rw [fD 3 (by omega), e3, i3]
  · rw [fD 4 (by omega), e4, i4]
  · rw [e0] at hx
    rw [fs _ _ (by omega), scF_1, r5 x (by omega)]
    by_cases z : x = rd 1
    · rw [if_pos z, if_pos z]
    · rw [if_neg z, if_neg z, f1 x hx]
  · rw [e0] at hi
    rw [fs _ _ (by omega), scF_2, r13 i]
    split
    · rfl
    · split
      · rfl
      · split
        · rfl
        · exact f2 i hi
  · rw [e0] at hx
    rw [fs _ _ (by omega), scF_3]
    unfold nxs
    rw [show 13 + 3 * x + 1 = 13 + (3 * x + 1) by omega, show 13 + 3 * x + 2 = 13 + (3 * x + 2) by omega, r13 (3 * x), r13 (3 * x + 1), r13 (3 * x + 2)]
    by_cases z : x = rd 1
    · rw [if_pos z, if_neg (by omega), if_neg (by omega), if_pos (by omega), if_neg (by omega), if_pos (by omega), if_pos (by omega)]
    · rw [if_neg z, if_neg (by omega), if_neg (by omega), if_neg (by omega), if_neg (by omega), if_neg (by omega), if_neg (by omega), if_neg (by omega), if_neg (by omega), if_neg (by omega), f3 x hx]
      rfl
  · rw [e2] at hg
    rw [fo _ _ (by omega), fo _ _ (by omega), fo _ _ (by omega), rl _ (by omega), rl _ (by omega), rl _ (by omega)]
    exact f4 g hg
  · rw [e3] at he
    rw [fo _ _ (by omega), fo _ _ (by omega), rl _ (by omega), rl _ (by omega)]
    exact f5 e he
  · rw [e4] at hi
    rw [fo _ _ (by omega), rl _ (by omega)]
    exact f6 i hi
  · rw [e4] at h4
    rw [fo _ _ (by omega)]
    exact f7 h4
  · unfold adX rdX
    rw [up_get, if_pos ⟨rfl, rfl⟩, upN_n (by omega), upN_n (by omega), upN_n (by omega), upN_n (by omega), upN_y]
def adG (D g x p k : Nat) (ρ : dm_G) : dm_G := dm_up (dm_up (dm_up (dm_up ρ (D + 4) g (.int (nI x))) (D + 5) g (.int (nI p))) (D + 6) g (.int (nI k))) D 2 (.int (nI (g + 1)))
def rdG (rd : Nat → Nat) (x p k : Nat) : Nat → Nat := upN (upN (upN (upN rd 2 (rd 2 + 1)) (37 + rd 2) x) (43 + rd 2) p) (49 + rd 2) k
theorem c_addG {x p k : Nat} (hC : DC ρ D rd) (hx : rd 2 < 6) : Cq 8 [.ref D, .int (nI x), .int (nI p), .int (nI k)] ρ Q = Q none (adG D (rd 2) x p k ρ) := by
  obtain ⟨⟨⟨kP, ⟨t1, l1⟩, ⟨t2, l2⟩, ⟨t3, l3⟩, ⟨t4, l4⟩, ⟨t5, l5⟩, ⟨t6, l6⟩, ⟨t7, l7⟩, ⟨t8, l8⟩, ⟨t9, l9⟩⟩, ⟨r1, r2, r3, r4, r5, r6, r7, r8, r9⟩, ⟨i0, i2, i3, i4⟩, _⟩, h1⟩ := hC
  have o4 : ¬ D = D + 4 := by omega
  have o5 : ¬ D = D + 5 := by omega
  have o6 : ¬ D = D + 6 := by omega
  have c4 : rd 2 < kl (D + 4) := by omega
  have c5 : rd 2 < kl (D + 5) := by omega
  have c6 : rd 2 < kl (D + 6) := by omega
  refine Cq_of (Er_of ?_)
  show Wq none 8 0 [some (.ref D), some (.int (nI x)), some (.int (nI p)), some (.int (nI k))] [] ρ _
  simp only [w8_0, w8_1, w8_4, w8_5, w8_8, w8_9, w8_12, w8_13, w8_16, w8_17, w8_20, w8_21, w8_24, w8_25, w8_28, w8_29, w8_32, w8_33, w8_36, w8_37, w8_37i, w8_38, w8_41, w8_42, w8_43, w8_46, kP, i2, r4, r5, r6, up_get, o4, o5, o6, false_and, c_put t4 c4 (by omega), c_put t5 c5 (by omega), c_put t6 c6 (by omega), nI_add, ↓reduceIte, Option.toList_some, Option.toList_none, List.cons_append, List.nil_append]
  exact ⟨trivial, rfl⟩
theorem DC_aG {x p k : Nat} (hC : DC ρ D rd) (hg : rd 2 < 6) (h0 : rd 0 ≤ 8) : DC (adG D (rd 2) x p k ρ) D (rdG rd x p k) := by
  obtain ⟨⟨hP, hR, ⟨i0, i2, i3, i4⟩, f1, f2, f3, f4, f5, f6, f7⟩, h1⟩ := hC
  have fD : ∀ j, ¬ j = 2 → adG D (rd 2) x p k ρ D j = ρ D j := fun j hj => by
    unfold adG
    rw [up_get, if_neg (by omega), up_get, if_neg (by omega), up_get, if_neg (by omega), up_get, if_neg (by omega)]
  have fo : ∀ i j, D < i → ¬ (D + 4 ≤ i ∧ i ≤ D + 6) → gi (adG D (rd 2) x p k ρ) i j = gi ρ i j := fun i j h1 h2 => gi_of (by
    unfold adG
    rw [up_get, if_neg (by omega), up_get, if_neg (by omega), up_get, if_neg (by omega), up_get, if_neg (by omega)])
  have fg : ∀ i j, D + 4 ≤ i → i ≤ D + 6 → gi (adG D (rd 2) x p k ρ) i j = if j = rd 2 then (if i = D + 4 then nI x else if i = D + 5 then nI p else nI k) else gi ρ i j := fun i j h1 h2 => by
    unfold adG
    rw [gi_up, if_neg (by omega), gi_up, gi_up, gi_up]
    by_cases z : j = rd 2
    · rw [if_pos z]
      by_cases z4 : i = D + 4
      · rw [if_neg (by omega), if_neg (by omega), if_pos ⟨z4, z⟩, if_pos z4]
      · by_cases z5 : i = D + 5
        · rw [if_neg (by omega), if_pos ⟨z5, z⟩, if_neg (by omega), if_pos z5]
        · rw [if_pos ⟨by omega, z⟩, if_neg (by omega), if_neg (by omega)]
    · rw [if_neg z, if_neg (by omega), if_neg (by omega), if_neg (by omega)]
  have rl : ∀ i, ¬ i = 2 → ¬ i = 37 + rd 2 → ¬ i = 43 + rd 2 → ¬ i = 49 + rd 2 → rdG rd x p k i = rd i := fun i a1 a2 a3 a4 => by
    unfold rdG
    rw [upN_n (by omega), upN_n (by omega), upN_n (by omega), upN_n (by omega)]
  have e2 : rdG rd x p k 2 = rd 2 + 1 := by
    unfold rdG
    rw [upN_n (by omega), upN_n (by omega), upN_n (by omega), upN_y]
  have e0 := rl 0 (by omega) (by omega) (by omega) (by omega)
  have e1 := rl 1 (by omega) (by omega) (by omega) (by omega)
  have e3 := rl 3 (by omega) (by omega) (by omega) (by omega)
  have e4 := rl 4 (by omega) (by omega) (by omega) (by omega)
  refine ⟨⟨hP, CR_o (fun j hj => fD j (by omega)) hR, ⟨?_, ?_, ?_, ?_⟩, fun x hx => ?_, fun i hi => ?_, fun x hx => ?_, fun g hg => ?_, fun e he => ?_, fun i hi => ?_, fun h4 => ?_⟩, ?_⟩
  · rw [fD 0 (by omega), e0, i0]
  · rw [e2]
    unfold adG
    rw [up_get, if_pos ⟨rfl, rfl⟩]
  · rw [fD 3 (by omega), e3, i3]
  · rw [fD 4 (by omega), e4, i4]
  · rw [e0] at hx
    rw [fo _ _ (by omega) (by omega), rl _ (by omega) (by omega) (by omega) (by omega), f1 x hx]
  · rw [e0] at hi
    rw [fo _ _ (by omega) (by omega), rl _ (by omega) (by omega) (by omega) (by omega), f2 i hi]
  · rw [e0] at hx
    unfold nxs
    rw [fo _ _ (by omega) (by omega), rl _ (by omega) (by omega) (by omega) (by omega), rl _ (by omega) (by omega) (by omega) (by omega), rl _ (by omega) (by omega) (by omega) (by omega), f3 x hx]
    rfl
  · rw [e2] at hg
    rw [fg _ _ (by omega) (by omega), fg _ _ (by omega) (by omega), fg _ _ (by omega) (by omega), if_pos rfl, if_neg (show ¬ D + 5 = D + 4 by omega), if_pos rfl, if_neg (show ¬ D + 6 = D + 4 by omega), if_neg (show ¬ D + 6 = D + 5 by omega)]
    by_cases z : g = rd 2
    · rw [if_pos z, if_pos z, if_pos z]
      unfold rdG
      rw [z, upN_n (by omega), upN_n (by omega), upN_y, upN_n (by omega), upN_y, upN_y]
      exact ⟨rfl, rfl, rfl⟩
    · rw [if_neg z, if_neg z, if_neg z, rl _ (by omega) (by omega) (by omega) (by omega), rl _ (by omega) (by omega) (by omega) (by omega), rl _ (by omega) (by omega) (by omega) (by omega)]
      exact f4 g (by omega)
  · rw [e3] at he
    rw [fo _ _ (by omega) (by omega), fo _ _ (by omega) (by omega), rl _ (by omega) (by omega) (by omega) (by omega), rl _ (by omega) (by omega) (by omega) (by omega)]
    exact f5 e he
  · rw [e4] at hi
    rw [fo _ _ (by omega) (by omega), rl _ (by omega) (by omega) (by omega) (by omega)]
    exact f6 i hi
  · rw [e4] at h4
    rw [fo _ _ (by omega) (by omega)]
    exact f7 h4
  · rw [fD 1 (by omega), e1, h1]
def adE (D e a b : Nat) (ρ : dm_G) : dm_G := dm_up (dm_up (dm_up ρ (D + 7) e (.int (nI a))) (D + 8) e (.int (nI b))) D 3 (.int (nI (e + 1)))
def rdE (rd : Nat → Nat) (a b : Nat) : Nat → Nat := upN (upN (upN rd 3 (rd 3 + 1)) (55 + rd 3) a) (61 + rd 3) b
theorem c_addE {a b : Nat} (hC : DC ρ D rd) (hx : rd 3 < 6) : Cq 9 [.ref D, .int (nI a), .int (nI b)] ρ Q = Q none (adE D (rd 3) a b ρ) := by
  obtain ⟨⟨⟨kP, ⟨t1, l1⟩, ⟨t2, l2⟩, ⟨t3, l3⟩, ⟨t4, l4⟩, ⟨t5, l5⟩, ⟨t6, l6⟩, ⟨t7, l7⟩, ⟨t8, l8⟩, ⟨t9, l9⟩⟩, ⟨r1, r2, r3, r4, r5, r6, r7, r8, r9⟩, ⟨i0, i2, i3, i4⟩, _⟩, h1⟩ := hC
  have o7 : ¬ D = D + 7 := by omega
  have o8 : ¬ D = D + 8 := by omega
  have c7 : rd 3 < kl (D + 7) := by omega
  have c8 : rd 3 < kl (D + 8) := by omega
  refine Cq_of (Er_of ?_)
  show Wq none 9 0 [some (.ref D), some (.int (nI a)), some (.int (nI b))] [] ρ _
  simp only [w9_0, w9_1, w9_4, w9_5, w9_8, w9_9, w9_12, w9_13, w9_16, w9_17, w9_20, w9_21, w9_24, w9_25, w9_25i, w9_26, w9_29, w9_30, w9_31, w9_34, kP, i3, r7, r8, up_get, o7, o8, false_and, c_put t7 c7 (by omega), c_put t8 c8 (by omega), nI_add, ↓reduceIte, Option.toList_some, Option.toList_none, List.cons_append, List.nil_append]
  exact ⟨trivial, rfl⟩
theorem DC_aE {a b : Nat} (hC : DC ρ D rd) (hg : rd 3 < 6) (h0 : rd 0 ≤ 8) (h2 : rd 2 ≤ 6) : DC (adE D (rd 3) a b ρ) D (rdE rd a b) := by
  obtain ⟨⟨hP, hR, ⟨i0, i2, i3, i4⟩, f1, f2, f3, f4, f5, f6, f7⟩, h1⟩ := hC
  have fD : ∀ j, ¬ j = 3 → adE D (rd 3) a b ρ D j = ρ D j := fun j hj => by
    unfold adE
    rw [up_get, if_neg (by omega), up_get, if_neg (by omega), up_get, if_neg (by omega)]
  have fo : ∀ i j, D < i → ¬ (D + 7 ≤ i ∧ i ≤ D + 8) → gi (adE D (rd 3) a b ρ) i j = gi ρ i j := fun i j h1 h2 => gi_of (by
    unfold adE
    rw [up_get, if_neg (by omega), up_get, if_neg (by omega), up_get, if_neg (by omega)])
  have fg : ∀ i j, D + 7 ≤ i → i ≤ D + 8 → gi (adE D (rd 3) a b ρ) i j = if j = rd 3 then (if i = D + 7 then nI a else nI b) else gi ρ i j := fun i j h1 h2 => by
    unfold adE
    rw [gi_up, if_neg (by omega), gi_up, gi_up]
    by_cases z : j = rd 3
    · rw [if_pos z]
      by_cases z4 : i = D + 7
      · rw [if_neg (by omega), if_pos ⟨z4, z⟩, if_pos z4]
      · rw [if_pos ⟨by omega, z⟩, if_neg (by omega)]
    · rw [if_neg z, if_neg (by omega), if_neg (by omega)]
  have rl : ∀ i, ¬ i = 3 → ¬ i = 55 + rd 3 → ¬ i = 61 + rd 3 → rdE rd a b i = rd i := fun i a1 a2 a3 => by
    unfold rdE
    rw [upN_n (by omega), upN_n (by omega), upN_n (by omega)]
  have e3 : rdE rd a b 3 = rd 3 + 1 := by
    unfold rdE
    rw [upN_n (by omega), upN_n (by omega), upN_y]
  have e0 := rl 0 (by omega) (by omega) (by omega)
  have e1 := rl 1 (by omega) (by omega) (by omega)
  have e2 := rl 2 (by omega) (by omega) (by omega)
  have e4 := rl 4 (by omega) (by omega) (by omega)
  refine ⟨⟨hP, CR_o (fun j hj => fD j (by omega)) hR, ⟨?_, ?_, ?_, ?_⟩, fun x hx => ?_, fun i hi => ?_, fun x hx => ?_, fun g hg => ?_, fun e he => ?_, fun i hi => ?_, fun h4 => ?_⟩, ?_⟩
  · rw [fD 0 (by omega), e0, i0]
  · rw [fD 2 (by omega), e2, i2]
  · rw [e3]
    unfold adE
    rw [up_get, if_pos ⟨rfl, rfl⟩]
  · rw [fD 4 (by omega), e4, i4]
  · rw [e0] at hx
    rw [fo _ _ (by omega) (by omega), rl _ (by omega) (by omega) (by omega), f1 x hx]
  · rw [e0] at hi
    rw [fo _ _ (by omega) (by omega), rl _ (by omega) (by omega) (by omega), f2 i hi]
  · rw [e0] at hx
    unfold nxs
    rw [fo _ _ (by omega) (by omega), rl _ (by omega) (by omega) (by omega), rl _ (by omega) (by omega) (by omega), rl _ (by omega) (by omega) (by omega), f3 x hx]
    rfl
  · rw [e2] at hg
    rw [fo _ _ (by omega) (by omega), fo _ _ (by omega) (by omega), fo _ _ (by omega) (by omega), rl _ (by omega) (by omega) (by omega), rl _ (by omega) (by omega) (by omega), rl _ (by omega) (by omega) (by omega)]
    exact f4 g hg
  · rw [e3] at he
    rw [fg _ _ (by omega) (by omega), fg _ _ (by omega) (by omega), if_pos rfl, if_neg (show ¬ D + 8 = D + 7 by omega)]
    by_cases z : e = rd 3
    · rw [if_pos z, if_pos z]
      unfold rdE
      rw [z, upN_n (by omega), upN_y, upN_y]
      exact ⟨rfl, rfl⟩
    · rw [if_neg z, if_neg z, rl _ (by omega) (by omega) (by omega), rl _ (by omega) (by omega) (by omega)]
      exact f5 e (by omega)
  · rw [e4] at hi
    rw [fo _ _ (by omega) (by omega), rl _ (by omega) (by omega) (by omega)]
    exact f6 i hi
  · rw [e4] at h4
    rw [fo _ _ (by omega) (by omega)]
    exact f7 h4
  · rw [fD 1 (by omega), e1, h1]
def adM (D i v : Nat) (ρ : dm_G) : dm_G := dm_up (dm_up ρ (D + 9) i (.int (nI v))) D 4 (.int (nI (i + 1)))
def rdM (rd : Nat → Nat) (v : Nat) : Nat → Nat := upN (upN rd (67 + rd 4) v) 4 (rd 4 + 1)
theorem c_addM {i v : Nat} (hP : CK D) (hR : CR ρ D) (h4 : ρ D 4 = .int (nI i)) (hi : i < 12) : Cq 10 [.ref D, .int (nI v)] ρ Q = Q none (adM D i v ρ) := by
  obtain ⟨kP, ⟨t1, l1⟩, ⟨t2, l2⟩, ⟨t3, l3⟩, ⟨t4, l4⟩, ⟨t5, l5⟩, ⟨t6, l6⟩, ⟨t7, l7⟩, ⟨t8, l8⟩, ⟨t9, l9⟩⟩ := id hP
  obtain ⟨r1, r2, r3, r4, r5, r6, r7, r8, r9⟩ := id hR
  have o9 : ¬ D = D + 9 := by omega
  have c9 : i < kl (D + 9) := by omega
  refine Cq_of (Er_of ?_)
  show Wq none 10 0 [some (.ref D), some (.int (nI v))] [] ρ _
  simp only [w10_0, w10_1, w10_4, w10_5, w10_8, w10_9, w10_12, w10_13, w10_13i, w10_14, w10_17, w10_18, w10_19, w10_22, kP, h4, r9, up_get, o9, false_and, c_put t9 c9 (by omega), nI_add, ↓reduceIte, Option.toList_some, Option.toList_none, List.cons_append, List.nil_append]
  exact ⟨trivial, rfl⟩
theorem DC_aM {v : Nat} (hC : DC ρ D rd) (h0 : rd 0 ≤ 8) (h2 : rd 2 ≤ 6) (h3 : rd 3 ≤ 6) : DC (adM D (rd 4) v ρ) D (rdM rd v) := by
  obtain ⟨⟨hP, hR, ⟨i0, i2, i3, i4⟩, f1, f2, f3, f4, f5, f6, f7⟩, h1⟩ := hC
  have fD : ∀ j, ¬ j = 4 → adM D (rd 4) v ρ D j = ρ D j := fun j hj => by
    unfold adM
    rw [up_get, if_neg (by omega), up_get, if_neg (by omega)]
  have fo : ∀ i j, D < i → ¬ i = D + 9 → gi (adM D (rd 4) v ρ) i j = gi ρ i j := fun i j h1 h2 => gi_of (by
    unfold adM
    rw [up_get, if_neg (by omega), up_get, if_neg (by omega)])
  have rl : ∀ i, ¬ i = 4 → ¬ i = 67 + rd 4 → rdM rd v i = rd i := fun i a1 a2 => by
    unfold rdM
    rw [upN_n (by omega), upN_n (by omega)]
  have e4 : rdM rd v 4 = rd 4 + 1 := by
    unfold rdM
    rw [upN_y]
  have e0 := rl 0 (by omega) (by omega)
  have e1 := rl 1 (by omega) (by omega)
  have e2 := rl 2 (by omega) (by omega)
  have e3 := rl 3 (by omega) (by omega)
  refine ⟨⟨hP, CR_o (fun j hj => fD j (by omega)) hR, ⟨?_, ?_, ?_, ?_⟩, fun x hx => ?_, fun i hi => ?_, fun x hx => ?_, fun g hg => ?_, fun e he => ?_, fun i hi => ?_, fun h4 => ?_⟩, ?_⟩
  · rw [fD 0 (by omega), e0, i0]
  · rw [fD 2 (by omega), e2, i2]
  · rw [fD 3 (by omega), e3, i3]
  · rw [e4]
    unfold adM
    rw [up_get, if_pos ⟨rfl, rfl⟩]
  · rw [e0] at hx
    rw [fo _ _ (by omega) (by omega), rl _ (by omega) (by omega), f1 x hx]
  · rw [e0] at hi
    rw [fo _ _ (by omega) (by omega), rl _ (by omega) (by omega), f2 i hi]
  · rw [e0] at hx
    unfold nxs
    rw [fo _ _ (by omega) (by omega), rl _ (by omega) (by omega), rl _ (by omega) (by omega), rl _ (by omega) (by omega), f3 x hx]
    rfl
  · rw [e2] at hg
    rw [fo _ _ (by omega) (by omega), fo _ _ (by omega) (by omega), fo _ _ (by omega) (by omega), rl _ (by omega) (by omega), rl _ (by omega) (by omega), rl _ (by omega) (by omega)]
    exact f4 g hg
  · rw [e3] at he
    rw [fo _ _ (by omega) (by omega), fo _ _ (by omega) (by omega), rl _ (by omega) (by omega), rl _ (by omega) (by omega)]
    exact f5 e he
  · rw [e4] at hi
    unfold adM
    rw [gi_up, if_neg (by omega), gi_up]
    by_cases z : i = rd 4
    · rw [if_pos ⟨rfl, z⟩, z]
      unfold rdM
      rw [upN_n (by omega), upN_y]
    · rw [if_neg (by omega), rl _ (by omega) (by omega)]
      exact f6 i (by omega)
  · rw [e4] at h4
    omega
  · rw [fD 1 (by omega), e1, h1]
end DR
