/-! what the law asks of ways, purely -/
section PW
variable {c : Nat → Nat} {o o' a b : Nat}
theorem pw_0 (hw : WC c) (ha : a < c 0) : sbN c a b o = some 0 ↔ a = b := by
  constructor
  · intro h
    exact (sb_some hw ha h).1
  · intro h
    cases hs : sbN c a b o with
    | none => exact absurd (show Wk c o 0 a b from h) (sb_none hw ha hs 0)
    | some d =>
      have := (sb_some hw ha hs).2 0 h
      rw [show d = 0 by omega]
theorem pw_end {d : Nat} (hw : WC c) (ha : a < c 0) (h : sbN c a b o = some (d + 1)) : o.testBit b = true := by
  obtain ⟨z, -, t, -, -, h2⟩ := (Wk_snoc d a b).mp (sb_some hw ha h).1
  exact h2
theorem pw_turn {t d' : Nat} (hw : WC c) (ha : a < c 0) (ht : t < 3) (ho : o.testBit (Tn c a t) = true) (h : sbN c (Tn c a t) b o = some d') : ∃ d, sbN c a b o = some d ∧ d ≤ d' + 1 := by
  have h1 : Wk c o (d' + 1) a b := ⟨t, ht, ho, (sb_some hw (Tn_lt hw ha ht) h).1⟩
  cases hs : sbN c a b o with
  | none => exact absurd h1 (sb_none hw ha hs _)
  | some d => exact ⟨d, rfl, (sb_some hw ha hs).2 _ h1⟩
theorem pw_reach (hw : WC c) (ha : a < c 0) : (sN c a o (c 0)).testBit b = true ↔ ∃ d, sbN c a b o = some d := by
  rw [sN_tb hw ha]
  constructor
  · rintro ⟨j, -, hj⟩
    cases hs : sbN c a b o with
    | none => exact absurd hj (sb_none hw ha hs _)
    | some d => exact ⟨d, rfl⟩
  · rintro ⟨d, hd⟩
    exact ⟨d, Nat.le_of_lt (sbN_lt hd), (sb_some hw ha hd).1⟩
theorem Wk_mono (h : ∀ i, o.testBit i = true → o'.testBit i = true) : ∀ (k a : Nat), Wk c o k a b → Wk c o' k a b := by
  intro k
  induction k with
  | zero => exact fun a h => h
  | succ k ih =>
    rintro a ⟨t, h1, h2, h3⟩
    exact ⟨t, h1, h _ h2, ih _ h3⟩
/-- a walk by its crossings -/
def Pth (c : Nat → Nat) (o d : Nat) (v : Nat → Nat) : Prop := ∀ i, i < d → o.testBit (v (i + 1)) = true ∧ ∃ t, t < 3 ∧ Tn c (v i) t = v (i + 1)
theorem Wk_pth : ∀ (d a : Nat), Wk c o d a b → ∃ v, v 0 = a ∧ v d = b ∧ Pth c o d v := by
  intro d
  induction d with
  | zero => exact fun a h => ⟨fun _ => a, rfl, h, fun i hi => by omega⟩
  | succ d ih =>
    rintro a ⟨t, h1, h2, h3⟩
    obtain ⟨v, e0, ed, hv⟩ := ih _ h3
    refine ⟨fun i => match i with
      | 0 => a
      | i + 1 => v i, rfl, ed, fun i hi => ?_⟩
    cases i with
    | zero => exact ⟨by show o.testBit (v 0) = true; rw [e0]; exact h2, t, h1, e0.symm⟩
    | succ i => exact hv i (by omega)
theorem pth_Wk : ∀ (d : Nat) (v : Nat → Nat), Pth c o d v → Wk c o d (v 0) (v d) := by
  intro d
  induction d with
  | zero => exact fun v _ => rfl
  | succ d ih =>
    intro v hv
    obtain ⟨h1, t, h2, h3⟩ := hv 0 (by omega)
    refine ⟨t, h2, by rw [h3]; exact h1, ?_⟩
    rw [h3]
    exact ih (fun i => v (i + 1)) (fun i hi => hv (i + 1) (by omega))
theorem pth_off {d x : Nat} {v : Nat → Nat} (hv : Pth c o d v) (hx : ∀ i, 0 < i → i ≤ d → v i ≠ x) : Pth c (andn o (1 <<< x)) d v := by
  intro i hi
  obtain ⟨h1, h2⟩ := hv i hi
  refine ⟨?_, h2⟩
  rw [andn_tb, h1, tb_shl1]
  have := hx (i + 1) (by omega) (by omega)
  simp [Ne.symm this]
-- numbers of bits
theorem cnt_or1 {s y : Nat} : ∀ N, cnt (s ||| 1 <<< y) N ≤ cnt s N + (if y < N then 1 else 0) := by
  intro N
  induction N with
  | zero => exact Nat.zero_le _
  | succ N ih =>
    rw [cnt, cnt, Nat.testBit_or, tb_shl1]
    by_cases hy : y = N
    · subst hy
      rw [if_neg (Nat.lt_irrefl _)] at ih
      rw [if_pos (Nat.lt_succ_self _)]
      split <;> split <;> omega
    · have hd : decide (y = N) = false := decide_eq_false hy
      rw [hd, Bool.or_false]
      by_cases h2 : y < N
      · rw [if_pos h2] at ih
        rw [if_pos (show y < N + 1 by omega)]
        split <;> omega
      · rw [if_neg h2] at ih
        rw [if_neg (show ¬ y < N + 1 by omega)]
        split <;> omega
def orV (v : Nat → Nat) : Nat → Nat := fun k => match k with
  | 0 => 0
  | k + 1 => orV v k ||| 1 <<< v (k + 1)
theorem orV_tb {v : Nat → Nat} {x : Nat} : ∀ k, (∃ i, 0 < i ∧ i ≤ k ∧ v i = x) → (orV v k).testBit x = true := by
  intro k
  induction k with
  | zero => rintro ⟨i, h1, h2, -⟩; omega
  | succ k ih =>
    rintro ⟨i, h1, h2, h3⟩
    rw [orV, Nat.testBit_or, tb_shl1]
    by_cases hi : i = k + 1
    · subst hi
      simp [h3]
    · rw [ih ⟨i, h1, by omega, h3⟩]
      rfl
theorem orV_cnt {v : Nat → Nat} (N : Nat) : ∀ k, cnt (orV v k) N ≤ k := by
  intro k
  induction k with
  | zero =>
    have : ∀ N, cnt 0 N = 0 := by
      intro N
      induction N with
      | zero => rfl
      | succ N ih => rw [cnt, ih]; simp
    rw [orV, this]
    exact Nat.le_refl _
  | succ k ih =>
    have := cnt_or1 (s := orV v k) (y := v (k + 1)) N
    rw [orV]
    split at this <;> omega
theorem agN_tb {x : Nat} : ∀ N, (agN c a b o N).testBit x = true → x < N ∧ x ≠ a ∧ x ≠ b ∧ sbN c a b (andn o (1 <<< x)) = none := by
  intro N
  induction N with
  | zero => intro h; simp [agN] at h
  | succ N ih =>
    intro h
    rw [agS] at h
    split at h
    · next hp =>
      rw [Nat.testBit_or, tb_shl1, Bool.or_eq_true] at h
      rcases h with h | h
      · have := ih h
        exact ⟨by omega, this.2⟩
      · have h : N = x := of_decide_eq_true h
        subst h
        exact ⟨by omega, hp⟩
    · have := ih h
      exact ⟨by omega, this.2⟩
/-- all go by: neither end, open, fewer than the streets -/
theorem pw_all (hw : WC c) (ha : a < c 0) (ho : o < 2 ^ c 0) : (∀ x, (gbN c a b o).testBit x = true → x < c 0 ∧ x ≠ a ∧ x ≠ b ∧ o.testBit x = true) ∧ (∀ N, cnt (gbN c a b o) N ≤ match sbN c a b o with
  | none => 0
  | some d => d - 1) := by
  unfold gbN
  cases hs : sbN c a b o with
  | none =>
    refine ⟨fun x h => by simp at h, fun N => ?_⟩
    have := orV_cnt (v := fun _ => 0) N 0
    exact this
  | some d =>
    obtain ⟨v, e0, ed, hv⟩ := Wk_pth d a (sb_some hw ha hs).1
    have key : ∀ x, (agN c a b o (c 0)).testBit x = true → ∃ i, 0 < i ∧ i < d ∧ v i = x := by
      intro x hx
      obtain ⟨h1, h2, h3, h4⟩ := agN_tb _ hx
      apply Classical.byContradiction
      intro hn
      have hp := pth_off (x := x) hv (fun i hi hid e => by
        by_cases hd : i = d
        · subst hd
          exact h3 (e.symm.trans ed)
        · exact hn ⟨i, hi, by omega, e⟩)
      have := pth_Wk d v hp
      rw [e0, ed] at this
      exact sb_none hw ha h4 d this
    refine ⟨fun x hx => ?_, fun N => ?_⟩
    · obtain ⟨h1, h2, h3, h4⟩ := agN_tb _ hx
      obtain ⟨i, hi, hid, hv2⟩ := key x hx
      refine ⟨h1, h2, h3, ?_⟩
      have := (hv (i - 1) (by omega)).1
      rwa [show i - 1 + 1 = i by omega, hv2] at this
    · refine Nat.le_trans (cnt_mono (s' := orV v (d - 1)) (fun x hx => ?_) N) (orV_cnt N _)
      obtain ⟨i, hi, hid, hv2⟩ := key x hx
      exact orV_tb _ ⟨i, hi, by omega, hv2⟩
/-- a ring -/
theorem pw_ring {k : Nat} (hw : WC c) (ha : a < c 0) (h : rgN c a o = some k) : 1 ≤ k ∧ k ≤ c 0 ∧ o.testBit a = true := by
  obtain ⟨h1, h2, h3⟩ := fnd_some _ _ _ h
  obtain ⟨j, hj, -, hj2⟩ := (bN_tb hw ha _ _).mp h3
  obtain ⟨j, rfl⟩ : ∃ i, j = i + 1 := ⟨j - 1, by omega⟩
  obtain ⟨z, -, t, -, -, h4⟩ := (Wk_snoc j a a).mp hj2
  exact ⟨h1, by omega, h4⟩
-- posing
theorem be_sub (hw : WC c) (ha : a < c 0) (h : ∀ i, o.testBit i = true → o'.testBit i = true) : beN c o o' a b = false := by
  unfold beN
  cases h1 : sbN c a b o with
  | none => rfl
  | some d =>
    have h2 := Wk_mono h _ _ (sb_some hw ha h1).1
    cases h3 : sbN c a b o' with
    | none => exact absurd h2 (sb_none hw ha h3 _)
    | some d' =>
      have := (sb_some hw ha h3).2 _ h2
      exact decide_eq_false (by omega)
theorem be_0 (hw : WC c) (ha : a < c 0) (hab : a ≠ b) (h : beN c o o' a b = true) : beN c o 0 a b = true := by
  unfold beN at h ⊢
  cases h1 : sbN c a b o with
  | none => rw [h1] at h; cases h
  | some d =>
    cases h3 : sbN c a b 0 with
    | none => rfl
    | some d' =>
      cases d' with
      | zero => exact absurd ((pw_0 hw ha).mp h3) hab
      | succ d' =>
        have := pw_end hw ha h3
        simp at this
theorem andn_0 (w : Nat) : andn 0 w = 0 := by
  apply Nat.eq_of_testBit_eq
  intro i
  rw [andn_tb]
  simp
variable {n : Nat → Nat} {g : Nat}
theorem p1_0 {s : Nat} (h : ∀ b, b < c 0 → paN c n g s a b = false) : ∀ b, b ≤ c 0 → p1N c n g s a b = 0 := by
  intro b
  induction b with
  | zero => intro _; rfl
  | succ b ih => intro hb; rw [p1S, if_neg (by rw [h b (by omega)]; decide), ih (by omega)]
theorem p2_0 {s : Nat} (h : ∀ a b, a < c 0 → b < c 0 → paN c n g s a b = false) : ∀ a, a ≤ c 0 → p2N c n g s a = 0 := by
  intro a
  induction a with
  | zero => intro _; rfl
  | succ a ih => intro ha; rw [p2S, ih (by omega), p1_0 (fun b hb => h a b (by omega) hb) _ (Nat.le_refl _)]
theorem p1_le {s s' : Nat} (h : ∀ b, b < c 0 → paN c n g s a b = true → paN c n g s' a b = true) : ∀ b, b ≤ c 0 → p1N c n g s a b ≤ p1N c n g s' a b := by
  intro b
  induction b with
  | zero => intro _; exact Nat.le_refl _
  | succ b ih =>
    intro hb
    have h1 := ih (by omega)
    rw [p1S, p1S]
    by_cases z : paN c n g s a b = true
    · rw [if_pos z, if_pos (h b (by omega) z)]; omega
    · rw [if_neg z]
      split <;> omega
theorem p2_le {s s' : Nat} (h : ∀ a b, a < c 0 → b < c 0 → paN c n g s a b = true → paN c n g s' a b = true) : ∀ a, a ≤ c 0 → p2N c n g s a ≤ p2N c n g s' a := by
  intro a
  induction a with
  | zero => intro _; exact Nat.le_refl _
  | succ a ih =>
    intro ha
    have h1 := ih (by omega)
    have h2 := p1_le (fun b hb => h a b (by omega) hb) _ (Nat.le_refl _)
    rw [p2S, p2S]
    omega
theorem pw_pose_sub {s : Nat} (hw : WC c) (h : ∀ i, (n (6 + g)).testBit i = true → s.testBit i = true) : p2N c n g s (c 0) = 0 := by
  refine p2_0 (fun a b ha hb => ?_) _ (Nat.le_refl _)
  unfold paN
  rw [be_sub hw ha (fun i hi => by
    rw [andn_tb, Bool.and_eq_true] at hi ⊢
    exact ⟨h i hi.1, hi.2⟩), Bool.and_false]
theorem pw_pose_0 {s : Nat} (hw : WC c) : p2N c n g s (c 0) ≤ p2N c n g 0 (c 0) := by
  refine p2_le (fun a b ha hb h => ?_) _ (Nat.le_refl _)
  unfold paN at h ⊢
  rw [andn_0]
  simp only [Bool.and_eq_true, decide_eq_true_eq] at h ⊢
  exact ⟨h.1, be_0 hw ha h.1.1.1 h.2⟩
-- leads
theorem pw_ft (hw : WC c) (ha : a < c 0) : ftN c a b o = none ↔ sbN c a b o = none ∨ sbN c a b o = some 0 := by
  unfold ftN
  cases hs : sbN c a b o with
  | none => simp
  | some d =>
    cases d with
    | zero => simp
    | succ d =>
      obtain ⟨t, ht, h1⟩ := sb_step hw ha hs
      obtain ⟨j, hj⟩ := fnd_ex 3 0 t (Nat.zero_le _) (by omega) h1
      simp [hj]
end PW
