/-! the constructor, run by the kernel; the law's three arrays -/
def st0 : dm_G := fun a b => if a = 0 then defaultValue (dm_tyf 9 b) else Value.null
def stR1 : Option (Option Value × dm_H) := dm_run none 3000 76 (0, dm_in0 76 [.ref 0], [], ([(0, 9)], st0))
def stG (r : Option (Option Value × dm_H)) : dm_G := match r with
  | some (_, h) => h.2
  | none => st0
set_option maxRecDepth 1000000 in
theorem R1_ok : (match stR1 with
  | some (none, (K, _)) => decide (K = KS.take 118)
  | _ => false) = true := by decide +kernel
theorem R1_eq : stR1 = some (none, (KS.take 118, stG stR1)) := by
  have h := R1_ok
  cases e : stR1 with
  | none => rw [e] at h; cases h
  | some q =>
    obtain ⟨r, K, σ⟩ := q
    rw [e] at h
    cases r with
    | some v => cases h
    | none =>
      have h2 : K = KS.take 118 := by simpa using h
      subst h2
      rfl
theorem run_n {scr : dm_Sc} {n m : Nat} {S S' : dm_S} (h : dm_st scr m S = some (.inl S')) : dm_run scr (n + 1) m S = dm_run scr n m S' := by simp only [dm_run, h]
theorem run_c {scr : dm_Sc} {n m y pc : Nat} {S : dm_S} {as : List Value} {ls : dm_L} {st : List Value} {h h' : dm_H} {r : Option Value} (hs : dm_st scr m S = some (.inr (.inr (y, as, (pc, ls, st, h))))) (hy : dm_sc scr y = none) (hr : dm_run none n y (0, dm_in0 y as, [], h) = some (r, h')) (hk : (decide (h'.1 = h.1) || dm_okl h.1.length ls st) = true) : dm_run scr (n + 1) m S = dm_run scr n m (pc, ls, r.toList ++ st, h') := by
  simp only [dm_run, hs, hy, hr, hk, if_true]
set_option maxRecDepth 1000000 in
theorem KS_szs : dm_sz KS ≤ 7302250 := by decide +kernel
theorem st_sp {scr : dm_Sc} {m pc len : Nat} {ls : dm_L} {st : List Value} {h : dm_H} {ins : Instr} {o : Option dm_O} (hd : decode (mB m) pc = .ok (ins, len)) (hl : (dm_len ins == 0 || dm_len ins == len) = true) (hx : dm_x scr m ins pc ls st h = o) : dm_st scr m (pc, ls, st, h) = o := (dm_st_of (S := (pc, ls, st, h)) hd hl).trans hx
/-- the law's locals at its start -/
def lwL (o z m : Option Value) : dm_L := some (.retAddr 0) :: o :: z :: m :: List.replicate 26 none
def st_A (σ : dm_G) (k : Nat) : dm_G := fun a b => if a = k then .int 0 else σ a b
theorem na_g {scr : dm_Sc} {pc n : Nat} {ls : dm_L} {K : List (Nat × Nat)} {σ : dm_G} (hd : decode (mB 133) pc = .ok (.newarray .int, 2)) (hn : (decide (nI n < 0) || decide (10000 < n)) = false) (hn2 : (nI n).toNatClampNeg = n) (ho : dm_okl K.length ls [] = true) : dm_st scr 133 (pc, ls, [.int (nI n)], (K, σ)) = some (.inl (pc + 2, ls, [.ref K.length], (K ++ [(1, n)], st_A σ K.length))) := by
  refine st_sp hd rfl ?_
  simp only [dm_x, hn2, hn, Bool.false_eq_true, if_false]
  unfold dm_al
  rw [if_pos ho]
  rfl
section LS
set_option maxHeartbeats 40000
set_option maxRecDepth 100000
theorem KS_t : (KS.take 118).length = 118 := by decide +kernel
theorem KS_e : ((KS.take 118 ++ [(1, 55)]) ++ [(1, 12)]) ++ [(1, 22)] = KS := by decide +kernel
theorem law_in : dm_in0 133 [.retAddr 0] = lwL none none none := rfl
theorem law_s0 (L : Nat) (xs : Nat → Int32) : dm_st (some (L, xs)) 133 (0, lwL none none none, [], ([], fun _ _ => .null)) = some (.inl (3, lwL none none none, [.ref 0], ([(0, 9)], st0))) := st_sp (by decide +kernel : decode (mB 133) 0 = .ok (.new 10, 3)) rfl rfl
theorem law_s1 (L : Nat) (xs : Nat → Int32) : dm_st (some (L, xs)) 133 (3, lwL none none none, [.ref 0], ([(0, 9)], st0)) = some (.inl (4, lwL none none none, [.ref 0, .ref 0], ([(0, 9)], st0))) := st_sp (by decide +kernel : decode (mB 133) 3 = .ok (.dup, 1)) rfl rfl
theorem law_s2 (L : Nat) (xs : Nat → Int32) : dm_st (some (L, xs)) 133 (4, lwL none none none, [.ref 0, .ref 0], ([(0, 9)], st0)) = some (.inr (.inr (76, [.ref 0], (7, lwL none none none, [.ref 0], ([(0, 9)], st0))))) := st_sp (by decide +kernel : decode (mB 133) 4 = .ok (.invokespecial 83, 3)) rfl rfl
theorem law_s3 (L : Nat) (xs : Nat → Int32) (h : dm_H) : dm_st (some (L, xs)) 133 (7, lwL none none none, [.ref 0], h) = some (.inl (8, lwL (some (.ref (0 : Nat))) none none, [], h)) := st_sp (by decide +kernel : decode (mB 133) 7 = .ok (.astore_n 1, 1)) rfl rfl
theorem law_s4 (L : Nat) (xs : Nat → Int32) (h : dm_H) : dm_st (some (L, xs)) 133 (8, lwL (some (.ref (0 : Nat))) none none, [], h) = some (.inl (10, lwL (some (.ref (0 : Nat))) none none, [.int (nI 55)], h)) := st_sp (by decide +kernel : decode (mB 133) 8 = .ok (.bipush 55, 2)) rfl rfl
theorem law_s6 (L : Nat) (xs : Nat → Int32) (h : dm_H) : dm_st (some (L, xs)) 133 (12, lwL (some (.ref (0 : Nat))) none none, [.ref 118], h) = some (.inl (13, lwL (some (.ref (0 : Nat))) (some (.ref (118 : Nat))) none, [], h)) := st_sp (by decide +kernel : decode (mB 133) 12 = .ok (.astore_n 2, 1)) rfl rfl
theorem law_s7 (L : Nat) (xs : Nat → Int32) (h : dm_H) : dm_st (some (L, xs)) 133 (13, lwL (some (.ref (0 : Nat))) (some (.ref (118 : Nat))) none, [], h) = some (.inl (15, lwL (some (.ref (0 : Nat))) (some (.ref (118 : Nat))) none, [.int (nI 12)], h)) := st_sp (by decide +kernel : decode (mB 133) 13 = .ok (.bipush 12, 2)) rfl rfl
theorem law_s9 (L : Nat) (xs : Nat → Int32) (h : dm_H) : dm_st (some (L, xs)) 133 (17, lwL (some (.ref (0 : Nat))) (some (.ref (118 : Nat))) none, [.ref 119], h) = some (.inl (18, lwL (some (.ref (0 : Nat))) (some (.ref (118 : Nat))) (some (.ref (119 : Nat))), [], h)) := st_sp (by decide +kernel : decode (mB 133) 17 = .ok (.astore_n 3, 1)) rfl rfl
theorem law_s10 (L : Nat) (xs : Nat → Int32) (h : dm_H) : dm_st (some (L, xs)) 133 (18, lwL (some (.ref (0 : Nat))) (some (.ref (118 : Nat))) (some (.ref (119 : Nat))), [], h) = some (.inl (20, lwL (some (.ref (0 : Nat))) (some (.ref (118 : Nat))) (some (.ref (119 : Nat))), [.int (nI 22)], h)) := st_sp (by decide +kernel : decode (mB 133) 18 = .ok (.bipush 22, 2)) rfl rfl
end LS
/-- the heap where the law's own work begins -/
def stZ : dm_G := st_A (st_A (st_A (stG stR1) 118) 119) 120
set_option maxHeartbeats 100000 in
set_option maxRecDepth 1000000 in
theorem dm_law_of {L : Nat} {xs : Nat → Int32} (h : Wq (some (L, xs)) 133 22 (lwL (some (.ref (0 : Nat))) (some (.ref (118 : Nat))) (some (.ref (119 : Nat)))) [(.ref (120 : Nat))] stZ (fun r _ => r = some (.int (nI 1)))) : dm_law L xs := by
  obtain ⟨n, r, σ', hr, rfl⟩ := h
  refine ⟨n + 3000 + 12, (KS, σ'), ?_, (by rw [show (KS, σ').1 = KS from rfl, KS_len]; decide), KS_szs⟩
  have e1 : dm_run none (n + 3000 + 9) 76 (0, dm_in0 76 [.ref 0], [], ([(0, 9)], st0)) = some (none, (KS.take 118, stG stR1)) := dm_run_le 3000 (by have := R1_eq; unfold stR1 at this; exact this) _ (by omega)
  rw [law_in]
  have s0 := law_s0 L xs
  rw [show n + 3000 + 12 = (n + 3000 + 11) + 1 by omega, run_n s0]
  have s1 := law_s1 L xs
  rw [show n + 3000 + 11 = (n + 3000 + 10) + 1 by omega, run_n s1]
  have s2 := law_s2 L xs
  rw [show n + 3000 + 10 = (n + 3000 + 9) + 1 by omega, run_c s2 (sc_off rfl) e1 rfl]
  show dm_run _ (n + 3000 + 9) _ (7, lwL none none none, [.ref 0], (KS.take 118, stG stR1)) = _
  rw [show n + 3000 + 9 = (n + 3000 + 8) + 1 by omega, run_n (law_s3 L xs _)]
  rw [show n + 3000 + 8 = (n + 3000 + 7) + 1 by omega, run_n (law_s4 L xs _)]
  have z1 : (KS.take 118 ++ [(1, 55)]).length = 119 := by rw [List.length_append, KS_t]; rfl
  have z2 : ((KS.take 118 ++ [(1, 55)]) ++ [(1, 12)]).length = 120 := by rw [List.length_append, z1]; rfl
  have s5 := na_g (scr := some (L, xs)) (pc := 10) (n := 55) (ls := lwL (some (.ref (0 : Nat))) none none) (K := KS.take 118) (σ := stG stR1) (by decide +kernel) (by decide) (by decide) (by rw [KS_t]; rfl)
  rw [show n + 3000 + 7 = (n + 3000 + 6) + 1 by omega, run_n s5, KS_t]
  rw [show n + 3000 + 6 = (n + 3000 + 5) + 1 by omega, run_n (law_s6 L xs _)]
  rw [show n + 3000 + 5 = (n + 3000 + 4) + 1 by omega, run_n (law_s7 L xs _)]
  have s8 := na_g (scr := some (L, xs)) (pc := 15) (n := 12) (ls := lwL (some (.ref (0 : Nat))) (some (.ref (118 : Nat))) none) (K := KS.take 118 ++ [(1, 55)]) (σ := st_A (stG stR1) 118) (by decide +kernel) (by decide) (by decide) (by rw [z1]; rfl)
  rw [show n + 3000 + 4 = (n + 3000 + 3) + 1 by omega, run_n s8, z1]
  rw [show n + 3000 + 3 = (n + 3000 + 2) + 1 by omega, run_n (law_s9 L xs _)]
  rw [show n + 3000 + 2 = (n + 3000 + 1) + 1 by omega, run_n (law_s10 L xs _)]
  have s11 := na_g (scr := some (L, xs)) (pc := 20) (n := 22) (ls := lwL (some (.ref (0 : Nat))) (some (.ref (118 : Nat))) (some (.ref (119 : Nat)))) (K := (KS.take 118 ++ [(1, 55)]) ++ [(1, 12)]) (σ := st_A (st_A (stG stR1) 118) 119) (by decide +kernel) (by decide) (by decide) (by rw [z2]; rfl)
  rw [run_n s11, z2, KS_e]
  exact dm_run_le n hr _ (by omega)
