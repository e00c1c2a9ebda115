/-! the two constructors, run by the kernel -/
def st0 : dm_G := fun a b => if a = 0 then defaultValue (dm_tyf 9 b) else Value.null
def stR1 : Option (Option Value × dm_H) := dm_run none 3000 76 (0, dm_in0 76 [.ref 0], [], ([(0, 9)], st0))
def stG (r : Option (Option Value × dm_H)) : dm_G := match r with
  | some (_, h) => h.2
  | none => st0
set_option maxRecDepth 1000000 in
theorem R1_ok : (match stR1 with
  | some (none, (K, _)) => decide (K = KS.take 118)
  | _ => false) = true := by decide +kernel
def st1 : dm_G := fun a b => if a = 118 then defaultValue (dm_tyf 10 b) else stG stR1 a b
def stR2 : Option (Option Value × dm_H) := dm_run none 3000 124 (0, dm_in0 124 [.ref 118], [], (KS.take 118 ++ [(0, 10)], st1))
set_option maxRecDepth 1000000 in
theorem R2_ok : (match stR2 with
  | some (none, (K, _)) => decide (K = KS)
  | _ => false) = true := by decide +kernel
theorem R1_eq : stR1 = some (none, (KS.take 118, stG stR1)) := by
  have h := R1_ok
  cases e : stR1 with
  | none => rw [e] at h; cases h
  | some q =>
    obtain ⟨r, K, σ⟩ := q
    rw [e] at h
    cases r with
    | some v => cases h
    | none =>
      have h2 : K = KS.take 118 := by simpa using h
      subst h2
      rfl
theorem R2_eq : stR2 = some (none, (KS, stG stR2)) := by
  have h := R2_ok
  cases e : stR2 with
  | none => rw [e] at h; cases h
  | some q =>
    obtain ⟨r, K, σ⟩ := q
    rw [e] at h
    cases r with
    | some v => cases h
    | none =>
      have h2 : K = KS := by simpa using h
      subst h2
      rfl
theorem run_n {scr : dm_Sc} {n m : Nat} {S S' : dm_S} (h : dm_st scr m S = some (.inl S')) : dm_run scr (n + 1) m S = dm_run scr n m S' := by simp only [dm_run, h]
theorem run_c {scr : dm_Sc} {n m y pc : Nat} {S : dm_S} {as : List Value} {ls : dm_L} {st : List Value} {h h' : dm_H} {r : Option Value} (hs : dm_st scr m S = some (.inr (.inr (y, as, (pc, ls, st, h))))) (hr : dm_run none n y (0, dm_in0 y as, [], h) = some (r, h')) (hk : (decide (h'.1 = h.1) || dm_okl h.1.length ls st) = true) : dm_run scr (n + 1) m S = dm_run scr n m (pc, ls, r.toList ++ st, h') := by
  simp only [dm_run, hs, hr, hk, if_true]
set_option maxRecDepth 1000000 in
theorem KS_szs : dm_sz KS ≤ 7302250 := by decide +kernel
theorem st_sp {scr : dm_Sc} {m pc len : Nat} {ls : dm_L} {st : List Value} {h : dm_H} {ins : Instr} {o : Option dm_O} (hd : decode (mB m) pc = .ok (ins, len)) (hl : (dm_len ins == 0 || dm_len ins == len) = true) (hx : dm_x scr m ins pc ls st h = o) : dm_st scr m (pc, ls, st, h) = o := (dm_st_of (S := (pc, ls, st, h)) hd hl).trans hx
section LS
set_option maxHeartbeats 40000
set_option maxRecDepth 100000
theorem law_s0 (L : Nat) (xs : Nat → Int32) : dm_st (some (L, xs)) 211 (0, [some (.retAddr 0), none, none, none], [], ([], fun _ _ => .null)) = some (.inl (3, [some (.retAddr 0), none, none, none], [.ref 0], ([(0, 9)], st0))) := st_sp (by decide +kernel : decode (mB 211) 0 = .ok (.new 7, 3)) rfl rfl
theorem law_s1 (L : Nat) (xs : Nat → Int32) : dm_st (some (L, xs)) 211 (3, [some (.retAddr 0), none, none, none], [.ref 0], ([(0, 9)], st0)) = some (.inl (4, [some (.retAddr 0), none, none, none], [.ref 0, .ref 0], ([(0, 9)], st0))) := st_sp (by decide +kernel : decode (mB 211) 3 = .ok (.dup, 1)) rfl rfl
theorem law_s2 (L : Nat) (xs : Nat → Int32) : dm_st (some (L, xs)) 211 (4, [some (.retAddr 0), none, none, none], [.ref 0, .ref 0], ([(0, 9)], st0)) = some (.inr (.inr (76, [.ref 0], (7, [some (.retAddr 0), none, none, none], [.ref 0], ([(0, 9)], st0))))) := st_sp (by decide +kernel : decode (mB 211) 4 = .ok (.invokespecial 9, 3)) rfl rfl
theorem law_s3 (L : Nat) (xs : Nat → Int32) : dm_st (some (L, xs)) 211 (7, [some (.retAddr 0), none, none, none], [.ref 0], (KS.take 118, stG stR1)) = some (.inl (8, [some (.retAddr 0), some (.ref 0), none, none], [], (KS.take 118, stG stR1))) := st_sp (by decide +kernel : decode (mB 211) 7 = .ok (.astore_n 1, 1)) rfl rfl
theorem law_s4g (L : Nat) (xs : Nat → Int32) (K : List (Nat × Nat)) (σ : dm_G) (hK : K.length = 118) : dm_st (some (L, xs)) 211 (8, [some (.retAddr 0), some (.ref 0), none, none], [], (K, σ)) = some (.inl (11, [some (.retAddr 0), some (.ref 0), none, none], [.ref K.length], (K ++ [(0, 10)], fun a b => if a = K.length then defaultValue (dm_tyf 10 b) else σ a b))) := by
  refine st_sp (by decide +kernel : decode (mB 211) 8 = .ok (.new 10, 3)) rfl ?_
  show dm_al [some (.retAddr 0), some (.ref 0), none, none] [] (K, σ) (0, 10) 11 (fun j => defaultValue (dm_tyf 10 j)) = _
  have e : dm_okl (K, σ).1.length [some (Value.retAddr 0), some (.ref 0), none, none] [] = true := by
    show dm_okl K.length _ _ = true
    rw [hK]
    rfl
  unfold dm_al
  rw [if_pos e]
  rfl
theorem KS_t : (KS.take 118).length = 118 := by decide +kernel
theorem law_s4 (L : Nat) (xs : Nat → Int32) : dm_st (some (L, xs)) 211 (8, [some (.retAddr 0), some (.ref 0), none, none], [], (KS.take 118, stG stR1)) = some (.inl (11, [some (.retAddr 0), some (.ref 0), none, none], [.ref 118], (KS.take 118 ++ [(0, 10)], st1))) := by
  have h := law_s4g L xs (KS.take 118) (stG stR1) KS_t
  rw [KS_t] at h
  exact h
theorem law_s5 (L : Nat) (xs : Nat → Int32) : dm_st (some (L, xs)) 211 (11, [some (.retAddr 0), some (.ref 0), none, none], [.ref 118], (KS.take 118 ++ [(0, 10)], st1)) = some (.inl (12, [some (.retAddr 0), some (.ref 0), none, none], [.ref 118, .ref 118], (KS.take 118 ++ [(0, 10)], st1))) := st_sp (by decide +kernel : decode (mB 211) 11 = .ok (.dup, 1)) rfl rfl
theorem law_s6 (L : Nat) (xs : Nat → Int32) : dm_st (some (L, xs)) 211 (12, [some (.retAddr 0), some (.ref 0), none, none], [.ref 118, .ref 118], (KS.take 118 ++ [(0, 10)], st1)) = some (.inr (.inr (124, [.ref 118], (15, [some (.retAddr 0), some (.ref 0), none, none], [.ref 118], (KS.take 118 ++ [(0, 10)], st1))))) := st_sp (by decide +kernel : decode (mB 211) 12 = .ok (.invokespecial 12, 3)) rfl rfl
theorem law_s7 (L : Nat) (xs : Nat → Int32) : dm_st (some (L, xs)) 211 (15, [some (.retAddr 0), some (.ref 0), none, none], [.ref 118], (KS, stG stR2)) = some (.inl (16, [some (.retAddr 0), some (.ref 0), some (.ref 118), none], [], (KS, stG stR2))) := st_sp (by decide +kernel : decode (mB 211) 15 = .ok (.astore_n 2, 1)) rfl rfl
theorem law_s8 (L : Nat) (xs : Nat → Int32) : dm_st (some (L, xs)) 211 (16, [some (.retAddr 0), some (.ref 0), some (.ref 118), none], [], (KS, stG stR2)) = some (.inl (17, [some (.retAddr 0), some (.ref 0), some (.ref 118), none], [.int (nI 0)], (KS, stG stR2))) := st_sp (by decide +kernel : decode (mB 211) 16 = .ok (.iconst 0, 1)) rfl rfl
theorem law_s9 (L : Nat) (xs : Nat → Int32) : dm_st (some (L, xs)) 211 (17, [some (.retAddr 0), some (.ref 0), some (.ref 118), none], [.int (nI 0)], (KS, stG stR2)) = some (.inl (18, [some (.retAddr 0), some (.ref 0), some (.ref 118), some (.int (nI 0))], [], (KS, stG stR2))) := st_sp (by decide +kernel : decode (mB 211) 17 = .ok (.istore_n 3, 1)) rfl rfl
end LS
set_option maxHeartbeats 60000 in
set_option maxRecDepth 1000000 in
theorem dm_law_of {L : Nat} {xs : Nat → Int32} (h : Wq (some (L, xs)) 211 18 [some (.retAddr 0), some (.ref (0 : Nat)), some (.ref (118 : Nat)), some (.int (nI 0))] [] (stG stR2) (fun r _ => r = some (.int (nI 1)))) : dm_law L xs := by
  obtain ⟨n, r, σ', hr, rfl⟩ := h
  refine ⟨n + 3000 + 10, (KS, σ'), ?_, (by rw [show (KS, σ').1 = KS from rfl, KS_len]; decide), KS_szs⟩
  have e1 : dm_run none (n + 3000 + 7) 76 (0, dm_in0 76 [.ref 0], [], ([(0, 9)], st0)) = some (none, (KS.take 118, stG stR1)) := dm_run_le 3000 (by have := R1_eq; unfold stR1 at this; exact this) _ (by omega)
  have e2 : dm_run none (n + 3000 + 3) 124 (0, dm_in0 124 [.ref 118], [], (KS.take 118 ++ [(0, 10)], st1)) = some (none, (KS, stG stR2)) := dm_run_le 3000 (by have := R2_eq; unfold stR2 at this; exact this) _ (by omega)
  have s0 := law_s0 L xs
  rw [show n + 3000 + 10 = (n + 3000 + 9) + 1 by omega, run_n s0]
  have s1 := law_s1 L xs
  rw [show n + 3000 + 9 = (n + 3000 + 8) + 1 by omega, run_n s1]
  have s2 := law_s2 L xs
  rw [show n + 3000 + 8 = (n + 3000 + 7) + 1 by omega, run_c s2 e1 rfl]
  have s3 := law_s3 L xs
  show dm_run _ (n + 3000 + 7) _ (7, [some (.retAddr 0), none, none, none], [.ref 0], (KS.take 118, stG stR1)) = _
  rw [show n + 3000 + 7 = (n + 3000 + 6) + 1 by omega, run_n s3]
  have s4 := law_s4 L xs
  rw [show n + 3000 + 6 = (n + 3000 + 5) + 1 by omega, run_n s4]
  have s5 := law_s5 L xs
  rw [show n + 3000 + 5 = (n + 3000 + 4) + 1 by omega, run_n s5]
  have s6 := law_s6 L xs
  rw [show n + 3000 + 4 = (n + 3000 + 3) + 1 by omega, run_c s6 e2 rfl]
  have s7 := law_s7 L xs
  show dm_run _ (n + 3000 + 3) _ (15, [some (.retAddr 0), some (.ref 0), none, none], [.ref 118], (KS, stG stR2)) = _
  rw [show n + 3000 + 3 = (n + 3000 + 2) + 1 by omega, run_n s7]
  have s8 := law_s8 L xs
  rw [show n + 3000 + 2 = (n + 3000 + 1) + 1 by omega, run_n s8]
  have s9 := law_s9 L xs
  rw [run_n s9]
  exact dm_run_le n hr _ (by omega)
