/-! what comes of one instruction, by kinds -/
/-- the kinds of cells grow at their end alone -/
def dm_PK (st : List Value) (h : dm_H) (o : dm_O) : Prop := match o with
  | .inl S' => S'.2.2.2.1 = h.1 ∨ ∃ kd, S'.2.2.2.1 = h.1 ++ [kd]
  | .inr (.inl (r, h')) => h' = h ∧ st = r.toList
  | .inr (.inr (_, _, S')) => S'.2.2.2 = h
theorem dm_x_K {scr : dm_Sc} {m : Nat} {ins : Instr} {pc : Nat} {ls : dm_L} {st : List Value} {h : dm_H} {o : dm_O} (hs : dm_x scr m ins pc ls st h = some o) : dm_PK st h o := by
  cases ins <;> simp only [dm_x, dm_nx, dm_ii, dm_iid, dm_jj, dm_jjd, dm_ld1, dm_ldl, dm_lda, dm_sti, dm_sta, dm_stl, dm_br, dm_sw, dm_al, dm_iv] at hs <;> (repeat' split at hs) <;> first
    | (cases hs; done)
    | (cases hs; exact Or.inl rfl)
    | (cases hs; exact Or.inr ⟨_, rfl⟩)
    | (cases hs; exact ⟨rfl, rfl⟩)
    | (cases hs; exact rfl)
def dm_rok (m pc : Nat) (r : Option Value) : Prop := (r = none ∧ mR m = none ∧ decode (mB m) pc = .ok (.return_, 1)) ∨ (∃ (x : Int32) (t : FieldType), r = some (.int x) ∧ mR m = some t ∧ narrow t (.int x) = .int x ∧ decode (mB m) pc = .ok (.ireturn, 1)) ∨ (∃ (x : Nat) (t : FieldType), r = some (.ref x) ∧ mR m = some t ∧ ((∃ n, t = .object n) ∨ ∃ u, t = .array u) ∧ decode (mB m) pc = .ok (.areturn, 1))
def dm_PR (m pc len : Nat) (ins : Instr) (o : dm_O) : Prop := match o with
  | .inl _ => True
  | .inr (.inl (r, _)) => decode (mB m) pc = .ok (ins, len) → dm_len ins = 0 ∨ dm_len ins = len → dm_rok m pc r
  | .inr (.inr _) => True
theorem dm_x_R {scr : dm_Sc} {m : Nat} {ins : Instr} {pc len : Nat} {ls : dm_L} {st : List Value} {h : dm_H} {o : dm_O} (hs : dm_x scr m ins pc ls st h = some o) : dm_PR m pc len ins o := by
  cases ins <;> simp only [dm_x, dm_nx, dm_ii, dm_iid, dm_jj, dm_jjd, dm_ld1, dm_ldl, dm_lda, dm_sti, dm_sta, dm_stl, dm_br, dm_sw, dm_al, dm_iv] at hs <;> (repeat' split at hs) <;> first
    | (cases hs; done)
    | (cases hs; exact True.intro)
    | (cases hs; intro hd hn; obtain rfl : 1 = len := hn.resolve_left (by simp [dm_len]); exact Or.inr (Or.inl ⟨_, _, rfl, by assumption, by simp_all, hd⟩))
    | (cases hs; intro hd hn; obtain rfl : 1 = len := hn.resolve_left (by simp [dm_len]); exact Or.inr (Or.inr ⟨_, _, rfl, by assumption, Or.inl ⟨_, rfl⟩, hd⟩))
    | (cases hs; intro hd hn; obtain rfl : 1 = len := hn.resolve_left (by simp [dm_len]); exact Or.inr (Or.inr ⟨_, _, rfl, by assumption, Or.inr ⟨_, rfl⟩, hd⟩))
    | (cases hs; intro hd hn; obtain rfl : 1 = len := hn.resolve_left (by simp [dm_len]); exact Or.inl ⟨rfl, by assumption, hd⟩)
/-- a call: which method, by which kind -/
def dm_cl2 (m i pc : Nat) (ks : List Nat) (ls : dm_L) (st : List Value) (h : dm_H) (y kd : Nat) (as r : List Value) : Prop :=
  rM (mO m) i = some (y, kd) ∧ kd ∈ ks ∧ kd ≠ 7 ∧ kd ≠ 8 ∧ kd ≠ 9 ∧ st = as.reverse ++ r ∧ as.length = mN y + (if kd = 2 ∨ kd = 3 then 0 else 1) ∧ dm_rk r = true ∧ mF y + 1 ≤ mF m ∧ 8 + (mX y + 11) + mL y ≤ mL m ∧ dm_aok y as = true ∧ dm_rcv kd y as h = true
theorem dm_iv_inv {ks : List Nat} {m i pc : Nat} {ls : dm_L} {st : List Value} {h : dm_H} {o : dm_O} (hs : dm_iv ks m i pc ls st h = some o) :
    (∃ y, rM (mO m) i = some (y, 7) ∧ 7 ∈ ks ∧ ∃ a r, st = .ref a :: r ∧ 1 ≤ mF m ∧ 12 + 2 * r.length ≤ mL m ∧ o = .inl (pc + 3, ls, r, h)) ∨
    (∃ y kd, rM (mO m) i = some (y, kd) ∧ kd ∈ ks ∧ (kd = 8 ∨ kd = 9) ∧ ∃ a b r, st = .int b :: .int a :: r ∧ 1 ≤ mF m ∧ 13 + 2 * r.length ≤ mL m ∧ o = .inl (pc + 3, ls, .int (if kd = 8 then (if a < b then b else a) else (if b < a then b else a)) :: r, h)) ∨
    (∃ y kd as r, dm_cl2 m i pc ks ls st h y kd as r ∧ o = .inr (.inr (y, as, (pc + 3, ls, r, h)))) := by
  unfold dm_iv at hs
  split at hs
  · cases hs
  · next y kd hM =>
    split at hs
    · next hks =>
      have hks : kd ∈ ks := by simpa using hks
      split at hs
      · next h7 =>
        have h7 : kd = 7 := by simpa using h7
        subst h7
        split at hs
        · next a r =>
          split at hs
          · next hr =>
            simp only [Bool.and_eq_true, decide_eq_true_eq] at hr
            exact Or.inl ⟨y, hM, hks, a, r, rfl, hr.1, hr.2, by simp only [dm_nx, Option.some.injEq] at hs; exact hs.symm⟩
          · cases hs
        · cases hs
      · next h7 =>
        split at hs
        · next h8 =>
          have h8 : kd = 8 ∨ kd = 9 := by simpa using h8
          split at hs
          · next b a r =>
            split at hs
            · next hr =>
              simp only [Bool.and_eq_true, decide_eq_true_eq] at hr
              exact Or.inr (Or.inl ⟨y, kd, hM, hks, h8, a, b, r, rfl, hr.1, hr.2, by simp only [dm_nx, Option.some.injEq, beq_iff_eq] at hs; exact hs.symm⟩)
            · cases hs
          · cases hs
        · next h8 =>
          have h7 : kd ≠ 7 := by simpa using h7
          have h8 : ¬ (kd = 8 ∨ kd = 9) := by simpa using h8
          dsimp only at hs
          generalize hn : mN y + (if (kd == 2 || kd == 3) = true then 0 else 1) = n at hs
          split at hs
          · next hr =>
            simp only [Bool.and_eq_true, decide_eq_true_eq] at hr
            obtain ⟨⟨⟨⟨⟨r1, r2⟩, r3⟩, r4⟩, r5⟩, r6⟩ := hr
            refine Or.inr (Or.inr ⟨y, kd, _, _, ⟨hM, hks, h7, fun q => h8 (Or.inl q), fun q => h8 (Or.inr q), ?_, ?_, r2, r3, r4, r5, r6⟩, (Option.some.inj hs).symm⟩)
            · rw [List.reverse_reverse, List.take_append_drop]
            · rw [List.length_reverse, r1, ← hn]
              simp only [Bool.or_eq_true, beq_iff_eq]
          · cases hs
    · cases hs
/-- which instructions call -/
def dm_PC (m pc : Nat) (ins : Instr) (ls : dm_L) (st : List Value) (h : dm_H) (o : dm_O) : Prop := match o with
  | .inl _ => True
  | .inr (.inl _) => True
  | .inr (.inr (y, as, S')) => ∃ i kd r, S' = (pc + 3, ls, r, h) ∧ ((ins = .invokevirtual i ∧ dm_cl2 m i pc [0, 1] ls st h y kd as r) ∨ (ins = .invokestatic i ∧ dm_cl2 m i pc [2, 3, 8, 9] ls st h y kd as r) ∨ (ins = .invokespecial i ∧ dm_cl2 m i pc [5, 6, 7] ls st h y kd as r))
theorem dm_x_C {scr : dm_Sc} {m : Nat} {ins : Instr} {pc : Nat} {ls : dm_L} {st : List Value} {h : dm_H} {o : dm_O} (hs : dm_x scr m ins pc ls st h = some o) : dm_PC m pc ins ls st h o := by
  cases ins
  case invokevirtual i =>
    rcases dm_iv_inv hs with ⟨y, -, -, a, r, -, -, -, rfl⟩ | ⟨y, kd, -, -, -, a, b, r, -, -, -, rfl⟩ | ⟨y, kd, as, r, hc, rfl⟩
    · exact True.intro
    · exact True.intro
    · exact ⟨i, kd, r, rfl, Or.inl ⟨rfl, hc⟩⟩
  case invokestatic i =>
    rcases dm_iv_inv hs with ⟨y, -, -, a, r, -, -, -, rfl⟩ | ⟨y, kd, -, -, -, a, b, r, -, -, -, rfl⟩ | ⟨y, kd, as, r, hc, rfl⟩
    · exact True.intro
    · exact True.intro
    · exact ⟨i, kd, r, rfl, Or.inr (Or.inl ⟨rfl, hc⟩)⟩
  case invokespecial i =>
    rcases dm_iv_inv hs with ⟨y, -, -, a, r, -, -, -, rfl⟩ | ⟨y, kd, -, -, -, a, b, r, -, -, -, rfl⟩ | ⟨y, kd, as, r, hc, rfl⟩
    · exact True.intro
    · exact True.intro
    · exact ⟨i, kd, r, rfl, Or.inr (Or.inr ⟨rfl, hc⟩)⟩
  all_goals
    simp only [dm_x, dm_nx, dm_ii, dm_iid, dm_jj, dm_jjd, dm_ld1, dm_ldl, dm_lda, dm_sti, dm_sta, dm_stl, dm_br, dm_sw, dm_al] at hs <;> (repeat' split at hs) <;> first
    | (cases hs; done)
    | (cases hs; exact True.intro)
/-- fuel: more does no harm -/
theorem dm_run_le : ∀ (n : Nat) {scr : dm_Sc} {m : Nat} {S : dm_S} {R : Option Value × dm_H}, dm_run scr n m S = some R → ∀ k, n ≤ k → dm_run scr k m S = some R := by
  intro n
  induction n with
  | zero => intro scr m S R h; simp [dm_run] at h
  | succ n ih =>
    intro scr m S R h k hk
    obtain ⟨k, rfl⟩ : ∃ j, k = j + 1 := ⟨k - 1, by omega⟩
    have hk : n ≤ k := by omega
    simp only [dm_run] at h ⊢
    split at h
    · cases h
    · next S' hS => exact ih h k hk
    · next R' hS => exact h
    · next y as pc ls st hh hS =>
      split at h
      · cases h
      · next r h' hr =>
        rw [ih hr k hk]
        dsimp only
        split at h
        · next hc => rw [if_pos hc]; exact ih h k hk
        · cases h
theorem dm_sz_app (K : List (Nat × Nat)) (kd : Nat × Nat) : dm_sz (K ++ [kd]) = dm_sz K + dm_kz kd := by simp [dm_sz]
theorem dm_st_inv {scr : dm_Sc} {m : Nat} {S : dm_S} {o : dm_O} (hs : dm_st scr m S = some o) : ∃ ins len, decode (mB m) S.1 = .ok (ins, len) ∧ (dm_len ins = 0 ∨ dm_len ins = len) ∧ dm_x scr m ins S.1 S.2.1 S.2.2.1 S.2.2.2 = some o := by
  unfold dm_st at hs
  split at hs
  · next ins len hd =>
    split at hs
    · next hl => exact ⟨ins, len, hd, by simpa using hl, hs⟩
    · cases hs
  · cases hs
/-- the heap's cells only grow -/
theorem dm_run_mono : ∀ (n : Nat) {scr : dm_Sc} {m : Nat} {S : dm_S} {r : Option Value} {hF : dm_H}, dm_run scr n m S = some (r, hF) → S.2.2.2.1.length ≤ hF.1.length ∧ dm_sz S.2.2.2.1 ≤ dm_sz hF.1 := by
  intro n
  induction n with
  | zero => intro scr m S r hF h; simp [dm_run] at h
  | succ n ih =>
    intro scr m S r hF h
    simp only [dm_run] at h
    split at h
    · cases h
    · next S' hS =>
      obtain ⟨ins, len, -, -, hx⟩ := dm_st_inv hS
      have h1 := ih h
      have h2 := dm_x_K hx
      rcases (h2 : S'.2.2.2.1 = S.2.2.2.1 ∨ ∃ kd, S'.2.2.2.1 = S.2.2.2.1 ++ [kd]) with e | ⟨kd, e⟩
      · rw [e] at h1; exact h1
      · rw [e, dm_sz_app, List.length_append] at h1
        simp only [List.length_cons, List.length_nil] at h1
        omega
    · next R' hS =>
      obtain ⟨ins, len, -, -, hx⟩ := dm_st_inv hS
      have h2 := dm_x_K hx
      cases h
      have h2 : hF = S.2.2.2 := (h2 : hF = S.2.2.2 ∧ _).1
      rw [h2]
      exact ⟨Nat.le_refl _, Nat.le_refl _⟩
    · next y as pc ls st hh hS =>
      obtain ⟨ins, len, -, -, hx⟩ := dm_st_inv hS
      have h2 := dm_x_K hx
      have h2 : hh = S.2.2.2 := h2
      split at h
      · cases h
      · next r' h' hr =>
        split at h
        · have h3 := ih hr
          have h4 := ih h
          dsimp only at h3 h4
          rw [h2] at h3
          omega
        · cases h
theorem dm_run_pre : ∀ (n : Nat) {scr : dm_Sc} {m : Nat} {S : dm_S} {r : Option Value} {hF : dm_H}, dm_run scr n m S = some (r, hF) → ∃ l, hF.1 = S.2.2.2.1 ++ l := by
  intro n
  induction n with
  | zero => intro scr m S r hF h; simp [dm_run] at h
  | succ n ih =>
    intro scr m S r hF h
    simp only [dm_run] at h
    split at h
    · cases h
    · next S' hS =>
      obtain ⟨ins, len, -, -, hx⟩ := dm_st_inv hS
      obtain ⟨l, h1⟩ := ih h
      have h2 := dm_x_K hx
      rcases (h2 : S'.2.2.2.1 = S.2.2.2.1 ∨ ∃ kd, S'.2.2.2.1 = S.2.2.2.1 ++ [kd]) with e | ⟨kd, e⟩
      · exact ⟨l, by rw [h1, e]⟩
      · exact ⟨kd :: l, by rw [h1, e, List.append_assoc]; rfl⟩
    · next R' hS =>
      obtain ⟨ins, len, -, -, hx⟩ := dm_st_inv hS
      have h2 := dm_x_K hx
      cases h
      have h2 : hF = S.2.2.2 := (h2 : hF = S.2.2.2 ∧ _).1
      exact ⟨[], by rw [h2, List.append_nil]⟩
    · next y as pc ls st hh hS =>
      obtain ⟨ins, len, -, -, hx⟩ := dm_st_inv hS
      have h2 := dm_x_K hx
      have h2 : hh = S.2.2.2 := h2
      split at h
      · cases h
      · next r' h' hr =>
        split at h
        · obtain ⟨l1, h3⟩ := ih hr
          obtain ⟨l2, h4⟩ := ih h
          dsimp only at h3 h4
          exact ⟨l1 ++ l2, by rw [h4, h3, h2, List.append_assoc]⟩
        · cases h
