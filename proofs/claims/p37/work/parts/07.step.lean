theorem dm_scope {n a j : Nat} {σ : dm_G} {v : Value} (h : ∀ k j k' : Nat, k < n → σ k j = .ref k' → k' < n) (hv : ∀ k', v = .ref k' → k' < n) : ∀ k i k' : Nat, k < n → dm_up σ a j v k i = .ref k' → k' < n := by
  intro k i k' hk he
  unfold dm_up at he
  split at he
  · exact hv k' he
  · exact h k i k' hk he
/-! one instruction of the abstract machine is one of the kit's rows (printed by wip/gen/step.py) -/
theorem dm_nx_inv {pc : Nat} {ls : dm_L} {st : List Value} {h : dm_H} {S' : dm_S} (hs : dm_nx pc ls st h = some (.inl S')) : S' = (pc, ls, st, h) := by
  simp only [dm_nx, Option.some.injEq, Sum.inl.injEq] at hs
  exact hs.symm
theorem dm_ii_inv {f : Int32 → Int32 → Int32} {pc : Nat} {ls : dm_L} {st : List Value} {h : dm_H} {S' : dm_S} (hs : dm_ii f pc ls st h = some (.inl S')) : ∃ x y r, st = .int y :: .int x :: r ∧ S' = (pc + 1, ls, .int (f x y) :: r, h) := by
  unfold dm_ii at hs
  split at hs
  · exact ⟨_, _, _, rfl, dm_nx_inv hs⟩
  · cases hs
theorem dm_iid_inv {f : Int32 → Int32 → Int32} {pc : Nat} {ls : dm_L} {st : List Value} {h : dm_H} {S' : dm_S} (hs : dm_iid f pc ls st h = some (.inl S')) : ∃ x y r, st = .int y :: .int x :: r ∧ ¬ y = 0 ∧ S' = (pc + 1, ls, .int (f x y) :: r, h) := by
  unfold dm_iid at hs
  split at hs
  · split at hs
    · cases hs
    · next hy => exact ⟨_, _, _, rfl, by simpa using hy, dm_nx_inv hs⟩
  · cases hs
theorem dm_jj_inv {f : Int64 → Int64 → Int64} {pc : Nat} {ls : dm_L} {st : List Value} {h : dm_H} {S' : dm_S} (hs : dm_jj f pc ls st h = some (.inl S')) : ∃ x y r, st = .long y :: .long x :: r ∧ S' = (pc + 1, ls, .long (f x y) :: r, h) := by
  unfold dm_jj at hs
  split at hs
  · exact ⟨_, _, _, rfl, dm_nx_inv hs⟩
  · cases hs
theorem dm_jjd_inv {f : Int64 → Int64 → Int64} {pc : Nat} {ls : dm_L} {st : List Value} {h : dm_H} {S' : dm_S} (hs : dm_jjd f pc ls st h = some (.inl S')) : ∃ x y r, st = .long y :: .long x :: r ∧ ¬ y = 0 ∧ S' = (pc + 1, ls, .long (f x y) :: r, h) := by
  unfold dm_jjd at hs
  split at hs
  · split at hs
    · cases hs
    · next hy => exact ⟨_, _, _, rfl, by simpa using hy, dm_nx_inv hs⟩
  · cases hs
theorem dm_ld1_inv {ls : dm_L} {i pc : Nat} {st : List Value} {h : dm_H} {S' : dm_S} (hs : dm_ld1 ls i pc st h = some (.inl S')) : ∃ x, ls[i]? = some (some (.int x)) ∧ S' = (pc, ls, .int x :: st, h) := by
  unfold dm_ld1 at hs
  split at hs
  · next x hx => exact ⟨x, hx, dm_nx_inv hs⟩
  · cases hs
theorem dm_ldl_inv {ls : dm_L} {i pc : Nat} {st : List Value} {h : dm_H} {S' : dm_S} (hs : dm_ldl ls i pc st h = some (.inl S')) : ∃ x, ls[i]? = some (some (.long x)) ∧ S' = (pc, ls, .long x :: st, h) := by
  unfold dm_ldl at hs
  split at hs
  · next x hx => exact ⟨x, hx, dm_nx_inv hs⟩
  · cases hs
theorem dm_lda_inv {ls : dm_L} {i pc : Nat} {st : List Value} {h : dm_H} {S' : dm_S} (hs : dm_lda ls i pc st h = some (.inl S')) : ∃ v, ls[i]? = some (some v) ∧ ((∃ k, v = .ref k) ∨ ∃ k, v = .retAddr k) ∧ S' = (pc, ls, v :: st, h) := by
  unfold dm_lda at hs
  split at hs
  · next x hx => exact ⟨_, hx, Or.inl ⟨_, rfl⟩, dm_nx_inv hs⟩
  · next x hx => exact ⟨_, hx, Or.inr ⟨_, rfl⟩, dm_nx_inv hs⟩
  · cases hs
theorem dm_sti_inv {m : Nat} {ls : dm_L} {i pc : Nat} {st : List Value} {h : dm_H} {S' : dm_S} (hs : dm_sti m ls i pc st h = some (.inl S')) : ∃ x r, st = .int x :: r ∧ dm_s1 m i ls = true ∧ S' = (pc, ls.set i (some (.int x)), r, h) := by
  unfold dm_sti at hs
  split at hs
  · split at hs
    · next hx => exact ⟨_, _, rfl, hx, dm_nx_inv hs⟩
    · cases hs
  · cases hs
theorem dm_sta_inv {m : Nat} {ls : dm_L} {i pc : Nat} {st : List Value} {h : dm_H} {S' : dm_S} (hs : dm_sta m ls i pc st h = some (.inl S')) : ∃ x r, st = .ref x :: r ∧ dm_s1 m i ls = true ∧ S' = (pc, ls.set i (some (.ref x)), r, h) := by
  unfold dm_sta at hs
  split at hs
  · split at hs
    · next hx => exact ⟨_, _, rfl, hx, dm_nx_inv hs⟩
    · cases hs
  · cases hs
theorem dm_stl_inv {m : Nat} {ls : dm_L} {i pc : Nat} {st : List Value} {h : dm_H} {S' : dm_S} (hs : dm_stl m ls i pc st h = some (.inl S')) : ∃ x r, st = .long x :: r ∧ dm_s2 m i ls = true ∧ S' = (pc, (ls.set i (some (.long x))).set (i + 1) none, r, h) := by
  unfold dm_stl at hs
  split at hs
  · split at hs
    · next hx => exact ⟨_, _, rfl, hx, dm_nx_inv hs⟩
    · cases hs
  · cases hs
theorem dm_br_inv {cd : Bool} {off : Int} {pc : Nat} {ls : dm_L} {r : List Value} {h : dm_H} {S' : dm_S} (hs : dm_br cd off pc ls r h = some (.inl S')) : (pc : Int) + off = (dm_jp pc off : Int) ∧ S' = (if cd then dm_jp pc off else pc + 3, ls, r, h) := by
  unfold dm_br at hs
  split at hs
  · next hj =>
    simp only [dm_jo, decide_eq_true_eq] at hj
    exact ⟨by unfold dm_jp; omega, dm_nx_inv hs⟩
  · cases hs
theorem dm_sw_inv {pc : Nat} {off : Option Int} {ls : dm_L} {r : List Value} {h : dm_H} {S' : dm_S} (hs : dm_sw pc off ls r h = some (.inl S')) : ∃ x, off = some x ∧ (pc : Int) + x = (dm_jp pc x : Int) ∧ S' = (dm_jp pc x, ls, r, h) := by
  unfold dm_sw at hs
  split at hs
  · split at hs
    · next hj =>
      simp only [dm_jo, decide_eq_true_eq] at hj
      exact ⟨_, rfl, by unfold dm_jp; omega, dm_nx_inv hs⟩
    · cases hs
  · cases hs
section DMX
variable {D : va_G} {p : Program} {l : Launch} {e : Env} {R : Room} {s : State} {mm : MethodId} {args : Array Value} {below : List Frame} {meth : Method} {c : Code} {Q : State → Prop} {A : Nat → Prop} {b m : Nat} {ad : Nat → Nat} {ca : Nat → ClassId} {cells slots : Nat}
def dm_go (D : va_G) (p : Program) (l : Launch) (e : Env) (R : Room) (s : State) (mm : MethodId) (args : Array Value) (below : List Frame) (meth : Method) (c : Code) (Q : State → Prop) (A : Nat → Prop) (b m : Nat) (ad : Nat → Nat) (ca : Nat → ClassId) (cells slots : Nat) (S : dm_S) : Prop :=
  ∀ (H : Heap) (locs : List Loc) (arr : Array Slot), dm_lh arr (mX m) (dm_cv ad b) S.2.1 → dm_lg m S.2.1 → dm_W D A b ad ca S.2.2.2 s H → va_S A s.heap H locs → W p l e R s mm args below meth c H locs cells slots Q (F0 mm S.1 arr (S.2.2.1.map (dm_cv ad b)))
variable {scr : dm_Sc} {pc : Nat} {ls : dm_L} {st : List Value} {h : dm_H} {S' : dm_S}

theorem dm_n_iconst (E : dm_E D p s mm args meth c m) {n : Int} {len : Nat} (hd : decode (mB m) pc = .ok ((.iconst n : Instr), len)) (hn : dm_len ((.iconst n : Instr)) = 0 ∨ dm_len ((.iconst n : Instr)) = len) (hs : dm_x scr m ((.iconst n : Instr)) pc ls st h = some (.inl S')) (kk : S'.2.2.2.1 = h.1 → dm_go D p l e R s mm args below meth c Q A b m ad ca cells slots S') : dm_go D p l e R s mm args below meth c Q A b m ad ca cells slots (pc, ls, st, h) := by
  intro H locs arr hl hg hW hS
  obtain ⟨hx, hb, hml, ho, hts, hini, hK, hN, hAO⟩ := id E
  obtain rfl : 1 = len := hn.resolve_left (by simp [dm_len])
  change dm_nx (pc + 1) ls (.int (Int32.ofInt n) :: st) h = some (.inl S') at hs
  obtain rfl := dm_nx_inv hs
  exact lv_iconst hx hb hd rfl (kk rfl H locs arr hl hg hW hS)

theorem dm_n_bipush (E : dm_E D p s mm args meth c m) {n : Int} {len : Nat} (hd : decode (mB m) pc = .ok ((.bipush n : Instr), len)) (hn : dm_len ((.bipush n : Instr)) = 0 ∨ dm_len ((.bipush n : Instr)) = len) (hs : dm_x scr m ((.bipush n : Instr)) pc ls st h = some (.inl S')) (kk : S'.2.2.2.1 = h.1 → dm_go D p l e R s mm args below meth c Q A b m ad ca cells slots S') : dm_go D p l e R s mm args below meth c Q A b m ad ca cells slots (pc, ls, st, h) := by
  intro H locs arr hl hg hW hS
  obtain ⟨hx, hb, hml, ho, hts, hini, hK, hN, hAO⟩ := id E
  obtain rfl : 2 = len := hn.resolve_left (by simp [dm_len])
  change dm_nx (pc + 2) ls (.int (Int8.ofInt n).toInt32 :: st) h = some (.inl S') at hs
  obtain rfl := dm_nx_inv hs
  exact lv_bipush hx hb hd rfl (kk rfl H locs arr hl hg hW hS)

theorem dm_n_sipush (E : dm_E D p s mm args meth c m) {n : Int} {len : Nat} (hd : decode (mB m) pc = .ok ((.sipush n : Instr), len)) (hn : dm_len ((.sipush n : Instr)) = 0 ∨ dm_len ((.sipush n : Instr)) = len) (hs : dm_x scr m ((.sipush n : Instr)) pc ls st h = some (.inl S')) (kk : S'.2.2.2.1 = h.1 → dm_go D p l e R s mm args below meth c Q A b m ad ca cells slots S') : dm_go D p l e R s mm args below meth c Q A b m ad ca cells slots (pc, ls, st, h) := by
  intro H locs arr hl hg hW hS
  obtain ⟨hx, hb, hml, ho, hts, hini, hK, hN, hAO⟩ := id E
  obtain rfl : 3 = len := hn.resolve_left (by simp [dm_len])
  change dm_nx (pc + 3) ls (.int (Int16.ofInt n).toInt32 :: st) h = some (.inl S') at hs
  obtain rfl := dm_nx_inv hs
  exact lv_sipush hx hb hd rfl (kk rfl H locs arr hl hg hW hS)

theorem dm_n_lconst (E : dm_E D p s mm args meth c m) {n : Fin 2} {len : Nat} (hd : decode (mB m) pc = .ok ((.lconst n : Instr), len)) (hn : dm_len ((.lconst n : Instr)) = 0 ∨ dm_len ((.lconst n : Instr)) = len) (hs : dm_x scr m ((.lconst n : Instr)) pc ls st h = some (.inl S')) (kk : S'.2.2.2.1 = h.1 → dm_go D p l e R s mm args below meth c Q A b m ad ca cells slots S') : dm_go D p l e R s mm args below meth c Q A b m ad ca cells slots (pc, ls, st, h) := by
  intro H locs arr hl hg hW hS
  obtain ⟨hx, hb, hml, ho, hts, hini, hK, hN, hAO⟩ := id E
  obtain rfl : 1 = len := hn.resolve_left (by simp [dm_len])
  change dm_nx (pc + 1) ls (.long (Int64.ofNat n) :: st) h = some (.inl S') at hs
  obtain rfl := dm_nx_inv hs
  exact lv_lconst hx hb hd rfl (kk rfl H locs arr hl hg hW hS)

theorem dm_n_aconst_null (E : dm_E D p s mm args meth c m) {len : Nat} (hd : decode (mB m) pc = .ok ((.aconst_null : Instr), len)) (hn : dm_len ((.aconst_null : Instr)) = 0 ∨ dm_len ((.aconst_null : Instr)) = len) (hs : dm_x scr m ((.aconst_null : Instr)) pc ls st h = some (.inl S')) (kk : S'.2.2.2.1 = h.1 → dm_go D p l e R s mm args below meth c Q A b m ad ca cells slots S') : dm_go D p l e R s mm args below meth c Q A b m ad ca cells slots (pc, ls, st, h) := by
  intro H locs arr hl hg hW hS
  obtain ⟨hx, hb, hml, ho, hts, hini, hK, hN, hAO⟩ := id E
  obtain rfl : 1 = len := hn.resolve_left (by simp [dm_len])
  change dm_nx (pc + 1) ls (.null :: st) h = some (.inl S') at hs
  obtain rfl := dm_nx_inv hs
  exact lv_null hx hb hd (kk rfl H locs arr hl hg hW hS)

theorem dm_n_ldc (E : dm_E D p s mm args meth c m) {i : Nat} {len : Nat} (hd : decode (mB m) pc = .ok ((.ldc i : Instr), len)) (hn : dm_len ((.ldc i : Instr)) = 0 ∨ dm_len ((.ldc i : Instr)) = len) (hs : dm_x scr m ((.ldc i : Instr)) pc ls st h = some (.inl S')) (kk : S'.2.2.2.1 = h.1 → dm_go D p l e R s mm args below meth c Q A b m ad ca cells slots S') : dm_go D p l e R s mm args below meth c Q A b m ad ca cells slots (pc, ls, st, h) := by
  intro H locs arr hl hg hW hS
  obtain ⟨hx, hb, hml, ho, hts, hini, hK, hN, hAO⟩ := id E
  obtain rfl : 2 = len := hn.resolve_left (by simp [dm_len])
  simp only [dm_x] at hs
  split at hs
  · next v hv =>
    obtain rfl := dm_nx_inv hs
    exact lv_ldc hx hb ho (hts _ (List.mem_cons_of_mem _ (dm_okC hv))) hd (kk rfl H locs arr hl hg hW hS)
  · cases hs

theorem dm_n_ldc_w (E : dm_E D p s mm args meth c m) {i : Nat} {len : Nat} (hd : decode (mB m) pc = .ok ((.ldc_w i : Instr), len)) (hn : dm_len ((.ldc_w i : Instr)) = 0 ∨ dm_len ((.ldc_w i : Instr)) = len) (hs : dm_x scr m ((.ldc_w i : Instr)) pc ls st h = some (.inl S')) (kk : S'.2.2.2.1 = h.1 → dm_go D p l e R s mm args below meth c Q A b m ad ca cells slots S') : dm_go D p l e R s mm args below meth c Q A b m ad ca cells slots (pc, ls, st, h) := by
  intro H locs arr hl hg hW hS
  obtain ⟨hx, hb, hml, ho, hts, hini, hK, hN, hAO⟩ := id E
  obtain rfl : 3 = len := hn.resolve_left (by simp [dm_len])
  simp only [dm_x] at hs
  split at hs
  · next v hv =>
    obtain rfl := dm_nx_inv hs
    exact lv_ldcw hx hb ho (hts _ (List.mem_cons_of_mem _ (dm_okC hv))) hd (kk rfl H locs arr hl hg hW hS)
  · cases hs

theorem dm_n_ldc2_w (E : dm_E D p s mm args meth c m) {i : Nat} {len : Nat} (hd : decode (mB m) pc = .ok ((.ldc2_w i : Instr), len)) (hn : dm_len ((.ldc2_w i : Instr)) = 0 ∨ dm_len ((.ldc2_w i : Instr)) = len) (hs : dm_x scr m ((.ldc2_w i : Instr)) pc ls st h = some (.inl S')) (kk : S'.2.2.2.1 = h.1 → dm_go D p l e R s mm args below meth c Q A b m ad ca cells slots S') : dm_go D p l e R s mm args below meth c Q A b m ad ca cells slots (pc, ls, st, h) := by
  intro H locs arr hl hg hW hS
  obtain ⟨hx, hb, hml, ho, hts, hini, hK, hN, hAO⟩ := id E
  obtain rfl : 3 = len := hn.resolve_left (by simp [dm_len])
  simp only [dm_x] at hs
  split at hs
  · next v hv =>
    obtain rfl := dm_nx_inv hs
    exact lv_ldc2 hx hb ho (hts _ (List.mem_cons_of_mem _ (dm_okL hv))) hd (kk rfl H locs arr hl hg hW hS)
  · cases hs

theorem dm_n_iload (E : dm_E D p s mm args meth c m) {i : Nat} {len : Nat} (hd : decode (mB m) pc = .ok ((.iload i : Instr), len)) (hn : dm_len ((.iload i : Instr)) = 0 ∨ dm_len ((.iload i : Instr)) = len) (hs : dm_x scr m ((.iload i : Instr)) pc ls st h = some (.inl S')) (kk : S'.2.2.2.1 = h.1 → dm_go D p l e R s mm args below meth c Q A b m ad ca cells slots S') : dm_go D p l e R s mm args below meth c Q A b m ad ca cells slots (pc, ls, st, h) := by
  intro H locs arr hl hg hW hS
  obtain ⟨hx, hb, hml, ho, hts, hini, hK, hN, hAO⟩ := id E
  obtain rfl : 2 = len := hn.resolve_left (by simp [dm_len])
  change dm_ld1 ls i (pc + 2) st h = some (.inl S') at hs
  obtain ⟨x, hv, rfl⟩ := dm_ld1_inv hs
  exact lv_iload hx hb hd (hl.2.2 i _ hv) (kk rfl H locs arr hl hg hW hS)

theorem dm_n_iload_n (E : dm_E D p s mm args meth c m) {i : Fin 4} {len : Nat} (hd : decode (mB m) pc = .ok ((.iload_n i : Instr), len)) (hn : dm_len ((.iload_n i : Instr)) = 0 ∨ dm_len ((.iload_n i : Instr)) = len) (hs : dm_x scr m ((.iload_n i : Instr)) pc ls st h = some (.inl S')) (kk : S'.2.2.2.1 = h.1 → dm_go D p l e R s mm args below meth c Q A b m ad ca cells slots S') : dm_go D p l e R s mm args below meth c Q A b m ad ca cells slots (pc, ls, st, h) := by
  intro H locs arr hl hg hW hS
  obtain ⟨hx, hb, hml, ho, hts, hini, hK, hN, hAO⟩ := id E
  obtain rfl : 1 = len := hn.resolve_left (by simp [dm_len])
  change dm_ld1 ls i (pc + 1) st h = some (.inl S') at hs
  obtain ⟨x, hv, rfl⟩ := dm_ld1_inv hs
  exact lv_iload_n hx hb hd rfl (hl.2.2 i _ hv) (kk rfl H locs arr hl hg hW hS)

theorem dm_n_lload (E : dm_E D p s mm args meth c m) {i : Nat} {len : Nat} (hd : decode (mB m) pc = .ok ((.lload i : Instr), len)) (hn : dm_len ((.lload i : Instr)) = 0 ∨ dm_len ((.lload i : Instr)) = len) (hs : dm_x scr m ((.lload i : Instr)) pc ls st h = some (.inl S')) (kk : S'.2.2.2.1 = h.1 → dm_go D p l e R s mm args below meth c Q A b m ad ca cells slots S') : dm_go D p l e R s mm args below meth c Q A b m ad ca cells slots (pc, ls, st, h) := by
  intro H locs arr hl hg hW hS
  obtain ⟨hx, hb, hml, ho, hts, hini, hK, hN, hAO⟩ := id E
  obtain rfl : 2 = len := hn.resolve_left (by simp [dm_len])
  change dm_ldl ls i (pc + 2) st h = some (.inl S') at hs
  obtain ⟨x, hv, rfl⟩ := dm_ldl_inv hs
  exact lv_lload hx hb hd (hl.2.2 i _ hv) (kk rfl H locs arr hl hg hW hS)

theorem dm_n_lload_n (E : dm_E D p s mm args meth c m) {i : Fin 4} {len : Nat} (hd : decode (mB m) pc = .ok ((.lload_n i : Instr), len)) (hn : dm_len ((.lload_n i : Instr)) = 0 ∨ dm_len ((.lload_n i : Instr)) = len) (hs : dm_x scr m ((.lload_n i : Instr)) pc ls st h = some (.inl S')) (kk : S'.2.2.2.1 = h.1 → dm_go D p l e R s mm args below meth c Q A b m ad ca cells slots S') : dm_go D p l e R s mm args below meth c Q A b m ad ca cells slots (pc, ls, st, h) := by
  intro H locs arr hl hg hW hS
  obtain ⟨hx, hb, hml, ho, hts, hini, hK, hN, hAO⟩ := id E
  obtain rfl : 1 = len := hn.resolve_left (by simp [dm_len])
  change dm_ldl ls i (pc + 1) st h = some (.inl S') at hs
  obtain ⟨x, hv, rfl⟩ := dm_ldl_inv hs
  exact lv_lload_n hx hb hd rfl (hl.2.2 i _ hv) (kk rfl H locs arr hl hg hW hS)

theorem dm_n_aload (E : dm_E D p s mm args meth c m) {i : Nat} {len : Nat} (hd : decode (mB m) pc = .ok ((.aload i : Instr), len)) (hn : dm_len ((.aload i : Instr)) = 0 ∨ dm_len ((.aload i : Instr)) = len) (hs : dm_x scr m ((.aload i : Instr)) pc ls st h = some (.inl S')) (kk : S'.2.2.2.1 = h.1 → dm_go D p l e R s mm args below meth c Q A b m ad ca cells slots S') : dm_go D p l e R s mm args below meth c Q A b m ad ca cells slots (pc, ls, st, h) := by
  intro H locs arr hl hg hW hS
  obtain ⟨hx, hb, hml, ho, hts, hini, hK, hN, hAO⟩ := id E
  obtain rfl : 2 = len := hn.resolve_left (by simp [dm_len])
  change dm_lda ls i (pc + 2) st h = some (.inl S') at hs
  obtain ⟨v, hv, (⟨k, rfl⟩ | ⟨k, rfl⟩), rfl⟩ := dm_lda_inv hs
  · exact lv_aload hx hb hd (hl.2.2 i _ hv) (kk rfl H locs arr hl hg hW hS)
  · exact lv_aload hx hb hd (hl.2.2 i _ hv) (kk rfl H locs arr hl hg hW hS)

theorem dm_n_aload_n (E : dm_E D p s mm args meth c m) {i : Fin 4} {len : Nat} (hd : decode (mB m) pc = .ok ((.aload_n i : Instr), len)) (hn : dm_len ((.aload_n i : Instr)) = 0 ∨ dm_len ((.aload_n i : Instr)) = len) (hs : dm_x scr m ((.aload_n i : Instr)) pc ls st h = some (.inl S')) (kk : S'.2.2.2.1 = h.1 → dm_go D p l e R s mm args below meth c Q A b m ad ca cells slots S') : dm_go D p l e R s mm args below meth c Q A b m ad ca cells slots (pc, ls, st, h) := by
  intro H locs arr hl hg hW hS
  obtain ⟨hx, hb, hml, ho, hts, hini, hK, hN, hAO⟩ := id E
  obtain rfl : 1 = len := hn.resolve_left (by simp [dm_len])
  change dm_lda ls i (pc + 1) st h = some (.inl S') at hs
  obtain ⟨v, hv, (⟨k, rfl⟩ | ⟨k, rfl⟩), rfl⟩ := dm_lda_inv hs
  · exact lv_aload_n hx hb hd rfl (hl.2.2 i _ hv) (kk rfl H locs arr hl hg hW hS)
  · exact lv_aload_n hx hb hd rfl (hl.2.2 i _ hv) (kk rfl H locs arr hl hg hW hS)

theorem dm_n_istore (E : dm_E D p s mm args meth c m) {i : Nat} {len : Nat} (hd : decode (mB m) pc = .ok ((.istore i : Instr), len)) (hn : dm_len ((.istore i : Instr)) = 0 ∨ dm_len ((.istore i : Instr)) = len) (hs : dm_x scr m ((.istore i : Instr)) pc ls st h = some (.inl S')) (kk : S'.2.2.2.1 = h.1 → dm_go D p l e R s mm args below meth c Q A b m ad ca cells slots S') : dm_go D p l e R s mm args below meth c Q A b m ad ca cells slots (pc, ls, st, h) := by
  intro H locs arr hl hg hW hS
  obtain ⟨hx, hb, hml, ho, hts, hini, hK, hN, hAO⟩ := id E
  obtain rfl : 2 = len := hn.resolve_left (by simp [dm_len])
  change dm_sti m ls i (pc + 2) st h = some (.inl S') at hs
  obtain ⟨x, r, rfl, h1, rfl⟩ := dm_sti_inv hs
  have hi : (i : Nat) < mX m := by
    rw [← hg.1]
    simp only [dm_s1, Bool.and_eq_true, decide_eq_true_eq] at h1
    exact h1.1
  refine lv_istore hx hb hd hl.has hi rfl (fun arr' h2 => ?_)
  obtain ⟨h3, h4⟩ := dm_store (v := .int x) hl hg h1 rfl h2
  exact kk rfl H locs arr' h3 h4 hW hS

theorem dm_n_istore_n (E : dm_E D p s mm args meth c m) {i : Fin 4} {len : Nat} (hd : decode (mB m) pc = .ok ((.istore_n i : Instr), len)) (hn : dm_len ((.istore_n i : Instr)) = 0 ∨ dm_len ((.istore_n i : Instr)) = len) (hs : dm_x scr m ((.istore_n i : Instr)) pc ls st h = some (.inl S')) (kk : S'.2.2.2.1 = h.1 → dm_go D p l e R s mm args below meth c Q A b m ad ca cells slots S') : dm_go D p l e R s mm args below meth c Q A b m ad ca cells slots (pc, ls, st, h) := by
  intro H locs arr hl hg hW hS
  obtain ⟨hx, hb, hml, ho, hts, hini, hK, hN, hAO⟩ := id E
  obtain rfl : 1 = len := hn.resolve_left (by simp [dm_len])
  change dm_sti m ls i (pc + 1) st h = some (.inl S') at hs
  obtain ⟨x, r, rfl, h1, rfl⟩ := dm_sti_inv hs
  have hi : (i : Nat) < mX m := by
    rw [← hg.1]
    simp only [dm_s1, Bool.and_eq_true, decide_eq_true_eq] at h1
    exact h1.1
  refine lv_istore_n hx hb hd rfl hl.has hi rfl (fun arr' h2 => ?_)
  obtain ⟨h3, h4⟩ := dm_store (v := .int x) hl hg h1 rfl h2
  exact kk rfl H locs arr' h3 h4 hW hS

theorem dm_n_astore (E : dm_E D p s mm args meth c m) {i : Nat} {len : Nat} (hd : decode (mB m) pc = .ok ((.astore i : Instr), len)) (hn : dm_len ((.astore i : Instr)) = 0 ∨ dm_len ((.astore i : Instr)) = len) (hs : dm_x scr m ((.astore i : Instr)) pc ls st h = some (.inl S')) (kk : S'.2.2.2.1 = h.1 → dm_go D p l e R s mm args below meth c Q A b m ad ca cells slots S') : dm_go D p l e R s mm args below meth c Q A b m ad ca cells slots (pc, ls, st, h) := by
  intro H locs arr hl hg hW hS
  obtain ⟨hx, hb, hml, ho, hts, hini, hK, hN, hAO⟩ := id E
  obtain rfl : 2 = len := hn.resolve_left (by simp [dm_len])
  change dm_sta m ls i (pc + 2) st h = some (.inl S') at hs
  obtain ⟨x, r, rfl, h1, rfl⟩ := dm_sta_inv hs
  have hi : (i : Nat) < mX m := by
    rw [← hg.1]
    simp only [dm_s1, Bool.and_eq_true, decide_eq_true_eq] at h1
    exact h1.1
  refine lv_astore hx hb hd hl.has hi rfl (fun arr' h2 => ?_)
  obtain ⟨h3, h4⟩ := dm_store (v := .ref x) hl hg h1 rfl h2
  exact kk rfl H locs arr' h3 h4 hW hS

theorem dm_n_astore_n (E : dm_E D p s mm args meth c m) {i : Fin 4} {len : Nat} (hd : decode (mB m) pc = .ok ((.astore_n i : Instr), len)) (hn : dm_len ((.astore_n i : Instr)) = 0 ∨ dm_len ((.astore_n i : Instr)) = len) (hs : dm_x scr m ((.astore_n i : Instr)) pc ls st h = some (.inl S')) (kk : S'.2.2.2.1 = h.1 → dm_go D p l e R s mm args below meth c Q A b m ad ca cells slots S') : dm_go D p l e R s mm args below meth c Q A b m ad ca cells slots (pc, ls, st, h) := by
  intro H locs arr hl hg hW hS
  obtain ⟨hx, hb, hml, ho, hts, hini, hK, hN, hAO⟩ := id E
  obtain rfl : 1 = len := hn.resolve_left (by simp [dm_len])
  change dm_sta m ls i (pc + 1) st h = some (.inl S') at hs
  obtain ⟨x, r, rfl, h1, rfl⟩ := dm_sta_inv hs
  have hi : (i : Nat) < mX m := by
    rw [← hg.1]
    simp only [dm_s1, Bool.and_eq_true, decide_eq_true_eq] at h1
    exact h1.1
  refine lv_astore_n hx hb hd rfl hl.has hi rfl (fun arr' h2 => ?_)
  obtain ⟨h3, h4⟩ := dm_store (v := .ref x) hl hg h1 rfl h2
  exact kk rfl H locs arr' h3 h4 hW hS

theorem dm_n_lstore (E : dm_E D p s mm args meth c m) {i : Nat} {len : Nat} (hd : decode (mB m) pc = .ok ((.lstore i : Instr), len)) (hn : dm_len ((.lstore i : Instr)) = 0 ∨ dm_len ((.lstore i : Instr)) = len) (hs : dm_x scr m ((.lstore i : Instr)) pc ls st h = some (.inl S')) (kk : S'.2.2.2.1 = h.1 → dm_go D p l e R s mm args below meth c Q A b m ad ca cells slots S') : dm_go D p l e R s mm args below meth c Q A b m ad ca cells slots (pc, ls, st, h) := by
  intro H locs arr hl hg hW hS
  obtain ⟨hx, hb, hml, ho, hts, hini, hK, hN, hAO⟩ := id E
  obtain rfl : 2 = len := hn.resolve_left (by simp [dm_len])
  change dm_stl m ls i (pc + 2) st h = some (.inl S') at hs
  obtain ⟨x, r, rfl, h1, rfl⟩ := dm_stl_inv hs
  have hi : (i : Nat) + 1 < mX m := by
    rw [← hg.1]
    simp only [dm_s2, Bool.and_eq_true, decide_eq_true_eq] at h1
    exact h1.1.1
  refine lv_lstore hx hb hd hl.has hi rfl (fun arr' h2 => ?_)
  obtain ⟨h3, h4⟩ := dm_storel hl hg h1 h2
  exact kk rfl H locs arr' h3 h4 hW hS

theorem dm_n_lstore_n (E : dm_E D p s mm args meth c m) {i : Fin 4} {len : Nat} (hd : decode (mB m) pc = .ok ((.lstore_n i : Instr), len)) (hn : dm_len ((.lstore_n i : Instr)) = 0 ∨ dm_len ((.lstore_n i : Instr)) = len) (hs : dm_x scr m ((.lstore_n i : Instr)) pc ls st h = some (.inl S')) (kk : S'.2.2.2.1 = h.1 → dm_go D p l e R s mm args below meth c Q A b m ad ca cells slots S') : dm_go D p l e R s mm args below meth c Q A b m ad ca cells slots (pc, ls, st, h) := by
  intro H locs arr hl hg hW hS
  obtain ⟨hx, hb, hml, ho, hts, hini, hK, hN, hAO⟩ := id E
  obtain rfl : 1 = len := hn.resolve_left (by simp [dm_len])
  change dm_stl m ls i (pc + 1) st h = some (.inl S') at hs
  obtain ⟨x, r, rfl, h1, rfl⟩ := dm_stl_inv hs
  have hi : (i : Nat) + 1 < mX m := by
    rw [← hg.1]
    simp only [dm_s2, Bool.and_eq_true, decide_eq_true_eq] at h1
    exact h1.1.1
  refine lv_lstore_n hx hb hd rfl hl.has hi rfl (fun arr' h2 => ?_)
  obtain ⟨h3, h4⟩ := dm_storel hl hg h1 h2
  exact kk rfl H locs arr' h3 h4 hW hS

theorem dm_n_iinc (E : dm_E D p s mm args meth c m) {i : Nat} {n : Int} {len : Nat} (hd : decode (mB m) pc = .ok ((.iinc i n : Instr), len)) (hn : dm_len ((.iinc i n : Instr)) = 0 ∨ dm_len ((.iinc i n : Instr)) = len) (hs : dm_x scr m ((.iinc i n : Instr)) pc ls st h = some (.inl S')) (kk : S'.2.2.2.1 = h.1 → dm_go D p l e R s mm args below meth c Q A b m ad ca cells slots S') : dm_go D p l e R s mm args below meth c Q A b m ad ca cells slots (pc, ls, st, h) := by
  intro H locs arr hl hg hW hS
  obtain ⟨hx, hb, hml, ho, hts, hini, hK, hN, hAO⟩ := id E
  obtain rfl : 3 = len := hn.resolve_left (by simp [dm_len])
  simp only [dm_x] at hs
  split at hs
  · next x hv =>
    split at hs
    · next h1 =>
      obtain rfl := dm_nx_inv hs
      have hi : i < mX m := by
        rw [← hg.1]
        simp only [dm_s1, Bool.and_eq_true, decide_eq_true_eq] at h1
        exact h1.1
      obtain ⟨k, hk⟩ := List.getElem?_of_mem ((dm_pl_mem (f := dm_cv ad b) (k := i) (w := .int x) ls 0).mpr ⟨i, .int x, by omega, hv, rfl⟩)
      refine lv_iinc hx hb hd hl.has hk rfl hi rfl (fun arr' h2 => ?_)
      obtain ⟨h3, h4⟩ := dm_store (v := .int (x + Int32.ofInt n)) hl hg h1 rfl h2
      exact kk rfl H locs arr' h3 h4 hW hS
    · cases hs
  · cases hs

theorem dm_n_iadd (E : dm_E D p s mm args meth c m) {len : Nat} (hd : decode (mB m) pc = .ok ((.iadd : Instr), len)) (hn : dm_len ((.iadd : Instr)) = 0 ∨ dm_len ((.iadd : Instr)) = len) (hs : dm_x scr m ((.iadd : Instr)) pc ls st h = some (.inl S')) (kk : S'.2.2.2.1 = h.1 → dm_go D p l e R s mm args below meth c Q A b m ad ca cells slots S') : dm_go D p l e R s mm args below meth c Q A b m ad ca cells slots (pc, ls, st, h) := by
  intro H locs arr hl hg hW hS
  obtain ⟨hx, hb, hml, ho, hts, hini, hK, hN, hAO⟩ := id E
  obtain rfl : 1 = len := hn.resolve_left (by simp [dm_len])
  change dm_ii (fun x y => x + y) pc ls st h = some (.inl S') at hs
  obtain ⟨x, y, r, rfl, rfl⟩ := dm_ii_inv hs
  exact lv_iadd hx hb hd (kk rfl H locs arr hl hg hW hS)

theorem dm_n_isub (E : dm_E D p s mm args meth c m) {len : Nat} (hd : decode (mB m) pc = .ok ((.isub : Instr), len)) (hn : dm_len ((.isub : Instr)) = 0 ∨ dm_len ((.isub : Instr)) = len) (hs : dm_x scr m ((.isub : Instr)) pc ls st h = some (.inl S')) (kk : S'.2.2.2.1 = h.1 → dm_go D p l e R s mm args below meth c Q A b m ad ca cells slots S') : dm_go D p l e R s mm args below meth c Q A b m ad ca cells slots (pc, ls, st, h) := by
  intro H locs arr hl hg hW hS
  obtain ⟨hx, hb, hml, ho, hts, hini, hK, hN, hAO⟩ := id E
  obtain rfl : 1 = len := hn.resolve_left (by simp [dm_len])
  change dm_ii (fun x y => x - y) pc ls st h = some (.inl S') at hs
  obtain ⟨x, y, r, rfl, rfl⟩ := dm_ii_inv hs
  exact lv_isub hx hb hd (kk rfl H locs arr hl hg hW hS)

theorem dm_n_imul (E : dm_E D p s mm args meth c m) {len : Nat} (hd : decode (mB m) pc = .ok ((.imul : Instr), len)) (hn : dm_len ((.imul : Instr)) = 0 ∨ dm_len ((.imul : Instr)) = len) (hs : dm_x scr m ((.imul : Instr)) pc ls st h = some (.inl S')) (kk : S'.2.2.2.1 = h.1 → dm_go D p l e R s mm args below meth c Q A b m ad ca cells slots S') : dm_go D p l e R s mm args below meth c Q A b m ad ca cells slots (pc, ls, st, h) := by
  intro H locs arr hl hg hW hS
  obtain ⟨hx, hb, hml, ho, hts, hini, hK, hN, hAO⟩ := id E
  obtain rfl : 1 = len := hn.resolve_left (by simp [dm_len])
  change dm_ii (fun x y => x * y) pc ls st h = some (.inl S') at hs
  obtain ⟨x, y, r, rfl, rfl⟩ := dm_ii_inv hs
  exact lv_imul hx hb hd (kk rfl H locs arr hl hg hW hS)

theorem dm_n_iand (E : dm_E D p s mm args meth c m) {len : Nat} (hd : decode (mB m) pc = .ok ((.iand : Instr), len)) (hn : dm_len ((.iand : Instr)) = 0 ∨ dm_len ((.iand : Instr)) = len) (hs : dm_x scr m ((.iand : Instr)) pc ls st h = some (.inl S')) (kk : S'.2.2.2.1 = h.1 → dm_go D p l e R s mm args below meth c Q A b m ad ca cells slots S') : dm_go D p l e R s mm args below meth c Q A b m ad ca cells slots (pc, ls, st, h) := by
  intro H locs arr hl hg hW hS
  obtain ⟨hx, hb, hml, ho, hts, hini, hK, hN, hAO⟩ := id E
  obtain rfl : 1 = len := hn.resolve_left (by simp [dm_len])
  change dm_ii (fun x y => x &&& y) pc ls st h = some (.inl S') at hs
  obtain ⟨x, y, r, rfl, rfl⟩ := dm_ii_inv hs
  exact lv_iand hx hb hd (kk rfl H locs arr hl hg hW hS)

theorem dm_n_ior (E : dm_E D p s mm args meth c m) {len : Nat} (hd : decode (mB m) pc = .ok ((.ior : Instr), len)) (hn : dm_len ((.ior : Instr)) = 0 ∨ dm_len ((.ior : Instr)) = len) (hs : dm_x scr m ((.ior : Instr)) pc ls st h = some (.inl S')) (kk : S'.2.2.2.1 = h.1 → dm_go D p l e R s mm args below meth c Q A b m ad ca cells slots S') : dm_go D p l e R s mm args below meth c Q A b m ad ca cells slots (pc, ls, st, h) := by
  intro H locs arr hl hg hW hS
  obtain ⟨hx, hb, hml, ho, hts, hini, hK, hN, hAO⟩ := id E
  obtain rfl : 1 = len := hn.resolve_left (by simp [dm_len])
  change dm_ii (fun x y => x ||| y) pc ls st h = some (.inl S') at hs
  obtain ⟨x, y, r, rfl, rfl⟩ := dm_ii_inv hs
  exact lv_ior hx hb hd (kk rfl H locs arr hl hg hW hS)

theorem dm_n_ixor (E : dm_E D p s mm args meth c m) {len : Nat} (hd : decode (mB m) pc = .ok ((.ixor : Instr), len)) (hn : dm_len ((.ixor : Instr)) = 0 ∨ dm_len ((.ixor : Instr)) = len) (hs : dm_x scr m ((.ixor : Instr)) pc ls st h = some (.inl S')) (kk : S'.2.2.2.1 = h.1 → dm_go D p l e R s mm args below meth c Q A b m ad ca cells slots S') : dm_go D p l e R s mm args below meth c Q A b m ad ca cells slots (pc, ls, st, h) := by
  intro H locs arr hl hg hW hS
  obtain ⟨hx, hb, hml, ho, hts, hini, hK, hN, hAO⟩ := id E
  obtain rfl : 1 = len := hn.resolve_left (by simp [dm_len])
  change dm_ii (fun x y => x ^^^ y) pc ls st h = some (.inl S') at hs
  obtain ⟨x, y, r, rfl, rfl⟩ := dm_ii_inv hs
  exact lv_ixor hx hb hd (kk rfl H locs arr hl hg hW hS)

theorem dm_n_ishl (E : dm_E D p s mm args meth c m) {len : Nat} (hd : decode (mB m) pc = .ok ((.ishl : Instr), len)) (hn : dm_len ((.ishl : Instr)) = 0 ∨ dm_len ((.ishl : Instr)) = len) (hs : dm_x scr m ((.ishl : Instr)) pc ls st h = some (.inl S')) (kk : S'.2.2.2.1 = h.1 → dm_go D p l e R s mm args below meth c Q A b m ad ca cells slots S') : dm_go D p l e R s mm args below meth c Q A b m ad ca cells slots (pc, ls, st, h) := by
  intro H locs arr hl hg hW hS
  obtain ⟨hx, hb, hml, ho, hts, hini, hK, hN, hAO⟩ := id E
  obtain rfl : 1 = len := hn.resolve_left (by simp [dm_len])
  change dm_ii (fun x y => x <<< (y &&& 31)) pc ls st h = some (.inl S') at hs
  obtain ⟨x, y, r, rfl, rfl⟩ := dm_ii_inv hs
  exact lv_ishl hx hb hd (kk rfl H locs arr hl hg hW hS)

theorem dm_n_ishr (E : dm_E D p s mm args meth c m) {len : Nat} (hd : decode (mB m) pc = .ok ((.ishr : Instr), len)) (hn : dm_len ((.ishr : Instr)) = 0 ∨ dm_len ((.ishr : Instr)) = len) (hs : dm_x scr m ((.ishr : Instr)) pc ls st h = some (.inl S')) (kk : S'.2.2.2.1 = h.1 → dm_go D p l e R s mm args below meth c Q A b m ad ca cells slots S') : dm_go D p l e R s mm args below meth c Q A b m ad ca cells slots (pc, ls, st, h) := by
  intro H locs arr hl hg hW hS
  obtain ⟨hx, hb, hml, ho, hts, hini, hK, hN, hAO⟩ := id E
  obtain rfl : 1 = len := hn.resolve_left (by simp [dm_len])
  change dm_ii (fun x y => x >>> (y &&& 31)) pc ls st h = some (.inl S') at hs
  obtain ⟨x, y, r, rfl, rfl⟩ := dm_ii_inv hs
  exact lv_ishr hx hb hd (kk rfl H locs arr hl hg hW hS)

theorem dm_n_iushr (E : dm_E D p s mm args meth c m) {len : Nat} (hd : decode (mB m) pc = .ok ((.iushr : Instr), len)) (hn : dm_len ((.iushr : Instr)) = 0 ∨ dm_len ((.iushr : Instr)) = len) (hs : dm_x scr m ((.iushr : Instr)) pc ls st h = some (.inl S')) (kk : S'.2.2.2.1 = h.1 → dm_go D p l e R s mm args below meth c Q A b m ad ca cells slots S') : dm_go D p l e R s mm args below meth c Q A b m ad ca cells slots (pc, ls, st, h) := by
  intro H locs arr hl hg hW hS
  obtain ⟨hx, hb, hml, ho, hts, hini, hK, hN, hAO⟩ := id E
  obtain rfl : 1 = len := hn.resolve_left (by simp [dm_len])
  change dm_ii (fun x y => (x.toUInt32 >>> (y.toUInt32 &&& Int32.toUInt32 31)).toInt32) pc ls st h = some (.inl S') at hs
  obtain ⟨x, y, r, rfl, rfl⟩ := dm_ii_inv hs
  exact lv_iushr hx hb hd rfl (kk rfl H locs arr hl hg hW hS)

theorem dm_n_idiv (E : dm_E D p s mm args meth c m) {len : Nat} (hd : decode (mB m) pc = .ok ((.idiv : Instr), len)) (hn : dm_len ((.idiv : Instr)) = 0 ∨ dm_len ((.idiv : Instr)) = len) (hs : dm_x scr m ((.idiv : Instr)) pc ls st h = some (.inl S')) (kk : S'.2.2.2.1 = h.1 → dm_go D p l e R s mm args below meth c Q A b m ad ca cells slots S') : dm_go D p l e R s mm args below meth c Q A b m ad ca cells slots (pc, ls, st, h) := by
  intro H locs arr hl hg hW hS
  obtain ⟨hx, hb, hml, ho, hts, hini, hK, hN, hAO⟩ := id E
  obtain rfl : 1 = len := hn.resolve_left (by simp [dm_len])
  change dm_iid (fun x y => x / y) pc ls st h = some (.inl S') at hs
  obtain ⟨x, y, r, rfl, hy, rfl⟩ := dm_iid_inv hs
  exact lv_idiv hx hb hd hy (kk rfl H locs arr hl hg hW hS)

theorem dm_n_irem (E : dm_E D p s mm args meth c m) {len : Nat} (hd : decode (mB m) pc = .ok ((.irem : Instr), len)) (hn : dm_len ((.irem : Instr)) = 0 ∨ dm_len ((.irem : Instr)) = len) (hs : dm_x scr m ((.irem : Instr)) pc ls st h = some (.inl S')) (kk : S'.2.2.2.1 = h.1 → dm_go D p l e R s mm args below meth c Q A b m ad ca cells slots S') : dm_go D p l e R s mm args below meth c Q A b m ad ca cells slots (pc, ls, st, h) := by
  intro H locs arr hl hg hW hS
  obtain ⟨hx, hb, hml, ho, hts, hini, hK, hN, hAO⟩ := id E
  obtain rfl : 1 = len := hn.resolve_left (by simp [dm_len])
  change dm_iid (fun x y => x - x / y * y) pc ls st h = some (.inl S') at hs
  obtain ⟨x, y, r, rfl, hy, rfl⟩ := dm_iid_inv hs
  exact lv_irem hx hb hd hy (kk rfl H locs arr hl hg hW hS)

theorem dm_n_ladd (E : dm_E D p s mm args meth c m) {len : Nat} (hd : decode (mB m) pc = .ok ((.ladd : Instr), len)) (hn : dm_len ((.ladd : Instr)) = 0 ∨ dm_len ((.ladd : Instr)) = len) (hs : dm_x scr m ((.ladd : Instr)) pc ls st h = some (.inl S')) (kk : S'.2.2.2.1 = h.1 → dm_go D p l e R s mm args below meth c Q A b m ad ca cells slots S') : dm_go D p l e R s mm args below meth c Q A b m ad ca cells slots (pc, ls, st, h) := by
  intro H locs arr hl hg hW hS
  obtain ⟨hx, hb, hml, ho, hts, hini, hK, hN, hAO⟩ := id E
  obtain rfl : 1 = len := hn.resolve_left (by simp [dm_len])
  change dm_jj (fun x y => x + y) pc ls st h = some (.inl S') at hs
  obtain ⟨x, y, r, rfl, rfl⟩ := dm_jj_inv hs
  exact lv_ladd hx hb hd (kk rfl H locs arr hl hg hW hS)

theorem dm_n_lmul (E : dm_E D p s mm args meth c m) {len : Nat} (hd : decode (mB m) pc = .ok ((.lmul : Instr), len)) (hn : dm_len ((.lmul : Instr)) = 0 ∨ dm_len ((.lmul : Instr)) = len) (hs : dm_x scr m ((.lmul : Instr)) pc ls st h = some (.inl S')) (kk : S'.2.2.2.1 = h.1 → dm_go D p l e R s mm args below meth c Q A b m ad ca cells slots S') : dm_go D p l e R s mm args below meth c Q A b m ad ca cells slots (pc, ls, st, h) := by
  intro H locs arr hl hg hW hS
  obtain ⟨hx, hb, hml, ho, hts, hini, hK, hN, hAO⟩ := id E
  obtain rfl : 1 = len := hn.resolve_left (by simp [dm_len])
  change dm_jj (fun x y => x * y) pc ls st h = some (.inl S') at hs
  obtain ⟨x, y, r, rfl, rfl⟩ := dm_jj_inv hs
  exact lv_lmul hx hb hd (kk rfl H locs arr hl hg hW hS)

theorem dm_n_land (E : dm_E D p s mm args meth c m) {len : Nat} (hd : decode (mB m) pc = .ok ((.land : Instr), len)) (hn : dm_len ((.land : Instr)) = 0 ∨ dm_len ((.land : Instr)) = len) (hs : dm_x scr m ((.land : Instr)) pc ls st h = some (.inl S')) (kk : S'.2.2.2.1 = h.1 → dm_go D p l e R s mm args below meth c Q A b m ad ca cells slots S') : dm_go D p l e R s mm args below meth c Q A b m ad ca cells slots (pc, ls, st, h) := by
  intro H locs arr hl hg hW hS
  obtain ⟨hx, hb, hml, ho, hts, hini, hK, hN, hAO⟩ := id E
  obtain rfl : 1 = len := hn.resolve_left (by simp [dm_len])
  change dm_jj (fun x y => x &&& y) pc ls st h = some (.inl S') at hs
  obtain ⟨x, y, r, rfl, rfl⟩ := dm_jj_inv hs
  exact lv_land hx hb hd (kk rfl H locs arr hl hg hW hS)

theorem dm_n_ldiv (E : dm_E D p s mm args meth c m) {len : Nat} (hd : decode (mB m) pc = .ok ((.ldiv : Instr), len)) (hn : dm_len ((.ldiv : Instr)) = 0 ∨ dm_len ((.ldiv : Instr)) = len) (hs : dm_x scr m ((.ldiv : Instr)) pc ls st h = some (.inl S')) (kk : S'.2.2.2.1 = h.1 → dm_go D p l e R s mm args below meth c Q A b m ad ca cells slots S') : dm_go D p l e R s mm args below meth c Q A b m ad ca cells slots (pc, ls, st, h) := by
  intro H locs arr hl hg hW hS
  obtain ⟨hx, hb, hml, ho, hts, hini, hK, hN, hAO⟩ := id E
  obtain rfl : 1 = len := hn.resolve_left (by simp [dm_len])
  change dm_jjd (fun x y => x / y) pc ls st h = some (.inl S') at hs
  obtain ⟨x, y, r, rfl, hy, rfl⟩ := dm_jjd_inv hs
  exact lv_ldiv hx hb hd hy (kk rfl H locs arr hl hg hW hS)

theorem dm_n_lrem (E : dm_E D p s mm args meth c m) {len : Nat} (hd : decode (mB m) pc = .ok ((.lrem : Instr), len)) (hn : dm_len ((.lrem : Instr)) = 0 ∨ dm_len ((.lrem : Instr)) = len) (hs : dm_x scr m ((.lrem : Instr)) pc ls st h = some (.inl S')) (kk : S'.2.2.2.1 = h.1 → dm_go D p l e R s mm args below meth c Q A b m ad ca cells slots S') : dm_go D p l e R s mm args below meth c Q A b m ad ca cells slots (pc, ls, st, h) := by
  intro H locs arr hl hg hW hS
  obtain ⟨hx, hb, hml, ho, hts, hini, hK, hN, hAO⟩ := id E
  obtain rfl : 1 = len := hn.resolve_left (by simp [dm_len])
  change dm_jjd (fun x y => x - x / y * y) pc ls st h = some (.inl S') at hs
  obtain ⟨x, y, r, rfl, hy, rfl⟩ := dm_jjd_inv hs
  exact lv_lrem hx hb hd hy (kk rfl H locs arr hl hg hW hS)

theorem dm_n_lcmp (E : dm_E D p s mm args meth c m) {len : Nat} (hd : decode (mB m) pc = .ok ((.lcmp : Instr), len)) (hn : dm_len ((.lcmp : Instr)) = 0 ∨ dm_len ((.lcmp : Instr)) = len) (hs : dm_x scr m ((.lcmp : Instr)) pc ls st h = some (.inl S')) (kk : S'.2.2.2.1 = h.1 → dm_go D p l e R s mm args below meth c Q A b m ad ca cells slots S') : dm_go D p l e R s mm args below meth c Q A b m ad ca cells slots (pc, ls, st, h) := by
  intro H locs arr hl hg hW hS
  obtain ⟨hx, hb, hml, ho, hts, hini, hK, hN, hAO⟩ := id E
  obtain rfl : 1 = len := hn.resolve_left (by simp [dm_len])
  simp only [dm_x] at hs
  split at hs
  · obtain rfl := dm_nx_inv hs
    exact W.lcmp hx hb hd (kk rfl H locs arr hl hg hW hS)
  · cases hs

theorem dm_n_i2l (E : dm_E D p s mm args meth c m) {len : Nat} (hd : decode (mB m) pc = .ok ((.i2l : Instr), len)) (hn : dm_len ((.i2l : Instr)) = 0 ∨ dm_len ((.i2l : Instr)) = len) (hs : dm_x scr m ((.i2l : Instr)) pc ls st h = some (.inl S')) (kk : S'.2.2.2.1 = h.1 → dm_go D p l e R s mm args below meth c Q A b m ad ca cells slots S') : dm_go D p l e R s mm args below meth c Q A b m ad ca cells slots (pc, ls, st, h) := by
  intro H locs arr hl hg hW hS
  obtain ⟨hx, hb, hml, ho, hts, hini, hK, hN, hAO⟩ := id E
  obtain rfl : 1 = len := hn.resolve_left (by simp [dm_len])
  simp only [dm_x] at hs
  split at hs
  · obtain rfl := dm_nx_inv hs
    exact lv_i2l hx hb hd rfl (kk rfl H locs arr hl hg hW hS)
  · cases hs

theorem dm_n_l2i (E : dm_E D p s mm args meth c m) {len : Nat} (hd : decode (mB m) pc = .ok ((.l2i : Instr), len)) (hn : dm_len ((.l2i : Instr)) = 0 ∨ dm_len ((.l2i : Instr)) = len) (hs : dm_x scr m ((.l2i : Instr)) pc ls st h = some (.inl S')) (kk : S'.2.2.2.1 = h.1 → dm_go D p l e R s mm args below meth c Q A b m ad ca cells slots S') : dm_go D p l e R s mm args below meth c Q A b m ad ca cells slots (pc, ls, st, h) := by
  intro H locs arr hl hg hW hS
  obtain ⟨hx, hb, hml, ho, hts, hini, hK, hN, hAO⟩ := id E
  obtain rfl : 1 = len := hn.resolve_left (by simp [dm_len])
  simp only [dm_x] at hs
  split at hs
  · obtain rfl := dm_nx_inv hs
    exact lv_l2i hx hb hd rfl (kk rfl H locs arr hl hg hW hS)
  · cases hs

theorem dm_n_ifnull (E : dm_E D p s mm args meth c m) {off : Int} {len : Nat} (hd : decode (mB m) pc = .ok ((.ifnull off : Instr), len)) (hn : dm_len ((.ifnull off : Instr)) = 0 ∨ dm_len ((.ifnull off : Instr)) = len) (hs : dm_x scr m ((.ifnull off : Instr)) pc ls st h = some (.inl S')) (kk : S'.2.2.2.1 = h.1 → dm_go D p l e R s mm args below meth c Q A b m ad ca cells slots S') : dm_go D p l e R s mm args below meth c Q A b m ad ca cells slots (pc, ls, st, h) := by
  intro H locs arr hl hg hW hS
  obtain ⟨hx, hb, hml, ho, hts, hini, hK, hN, hAO⟩ := id E
  obtain rfl : 3 = len := hn.resolve_left (by simp [dm_len])
  simp only [dm_x] at hs
  split at hs
  · obtain rfl := dm_nx_inv hs
    exact lv_ifnull hx hb hd (kk rfl H locs arr hl hg hW hS)
  · cases hs

theorem dm_n_dup (E : dm_E D p s mm args meth c m) {len : Nat} (hd : decode (mB m) pc = .ok ((.dup : Instr), len)) (hn : dm_len ((.dup : Instr)) = 0 ∨ dm_len ((.dup : Instr)) = len) (hs : dm_x scr m ((.dup : Instr)) pc ls st h = some (.inl S')) (kk : S'.2.2.2.1 = h.1 → dm_go D p l e R s mm args below meth c Q A b m ad ca cells slots S') : dm_go D p l e R s mm args below meth c Q A b m ad ca cells slots (pc, ls, st, h) := by
  intro H locs arr hl hg hW hS
  obtain ⟨hx, hb, hml, ho, hts, hini, hK, hN, hAO⟩ := id E
  obtain rfl : 1 = len := hn.resolve_left (by simp [dm_len])
  simp only [dm_x] at hs
  split at hs
  · split at hs
    · next h1 =>
      obtain rfl := dm_nx_inv hs
      exact lv_dup hx hb hd (by rw [dm_cv_cat]; simpa using h1) (kk rfl H locs arr hl hg hW hS)
    · cases hs
  · cases hs

theorem dm_n_pop (E : dm_E D p s mm args meth c m) {len : Nat} (hd : decode (mB m) pc = .ok ((.pop : Instr), len)) (hn : dm_len ((.pop : Instr)) = 0 ∨ dm_len ((.pop : Instr)) = len) (hs : dm_x scr m ((.pop : Instr)) pc ls st h = some (.inl S')) (kk : S'.2.2.2.1 = h.1 → dm_go D p l e R s mm args below meth c Q A b m ad ca cells slots S') : dm_go D p l e R s mm args below meth c Q A b m ad ca cells slots (pc, ls, st, h) := by
  intro H locs arr hl hg hW hS
  obtain ⟨hx, hb, hml, ho, hts, hini, hK, hN, hAO⟩ := id E
  obtain rfl : 1 = len := hn.resolve_left (by simp [dm_len])
  simp only [dm_x] at hs
  split at hs
  · split at hs
    · next h1 =>
      obtain rfl := dm_nx_inv hs
      exact lv_pop hx hb hd (by rw [dm_cv_cat]; simpa using h1) (kk rfl H locs arr hl hg hW hS)
    · cases hs
  · cases hs

theorem dm_n_dup2 (E : dm_E D p s mm args meth c m) {len : Nat} (hd : decode (mB m) pc = .ok ((.dup2 : Instr), len)) (hn : dm_len ((.dup2 : Instr)) = 0 ∨ dm_len ((.dup2 : Instr)) = len) (hs : dm_x scr m ((.dup2 : Instr)) pc ls st h = some (.inl S')) (kk : S'.2.2.2.1 = h.1 → dm_go D p l e R s mm args below meth c Q A b m ad ca cells slots S') : dm_go D p l e R s mm args below meth c Q A b m ad ca cells slots (pc, ls, st, h) := by
  intro H locs arr hl hg hW hS
  obtain ⟨hx, hb, hml, ho, hts, hini, hK, hN, hAO⟩ := id E
  obtain rfl : 1 = len := hn.resolve_left (by simp [dm_len])
  simp only [dm_x] at hs
  split at hs
  · split at hs
    · next h1 =>
      rw [Bool.and_eq_true, beq_iff_eq, beq_iff_eq] at h1
      obtain rfl := dm_nx_inv hs
      exact lv_dup2_11 hx hb hd (by rw [dm_cv_cat]; exact h1.1) (by rw [dm_cv_cat]; exact h1.2) (kk rfl H locs arr hl hg hW hS)
    · cases hs
  · cases hs

theorem dm_n_goto (E : dm_E D p s mm args meth c m) {off : Int} {len : Nat} (hd : decode (mB m) pc = .ok ((.goto off : Instr), len)) (hn : dm_len ((.goto off : Instr)) = 0 ∨ dm_len ((.goto off : Instr)) = len) (hs : dm_x scr m ((.goto off : Instr)) pc ls st h = some (.inl S')) (kk : S'.2.2.2.1 = h.1 → dm_go D p l e R s mm args below meth c Q A b m ad ca cells slots S') : dm_go D p l e R s mm args below meth c Q A b m ad ca cells slots (pc, ls, st, h) := by
  intro H locs arr hl hg hW hS
  obtain ⟨hx, hb, hml, ho, hts, hini, hK, hN, hAO⟩ := id E
  obtain rfl : 3 = len := hn.resolve_left (by simp [dm_len])
  change dm_sw pc (some off) ls st h = some (.inl S') at hs
  obtain ⟨x, hx1, hj, rfl⟩ := dm_sw_inv hs
  cases hx1
  exact lv_goto hx hb hd hj (kk rfl H locs arr hl hg hW hS)

theorem dm_n_icmp (E : dm_E D p s mm args meth c m) {cd : ClassFile.Cond} {off : Int} {len : Nat} (hd : decode (mB m) pc = .ok ((.if_icmp cd off : Instr), len)) (hn : dm_len ((.if_icmp cd off : Instr)) = 0 ∨ dm_len ((.if_icmp cd off : Instr)) = len) (hs : dm_x scr m ((.if_icmp cd off : Instr)) pc ls st h = some (.inl S')) (kk : S'.2.2.2.1 = h.1 → dm_go D p l e R s mm args below meth c Q A b m ad ca cells slots S') : dm_go D p l e R s mm args below meth c Q A b m ad ca cells slots (pc, ls, st, h) := by
  intro H locs arr hl hg hW hS
  obtain ⟨hx, hb, hml, ho, hts, hini, hK, hN, hAO⟩ := id E
  obtain rfl : 3 = len := hn.resolve_left (by simp [dm_len])
  simp only [dm_x] at hs
  split at hs
  · obtain ⟨hj, rfl⟩ := dm_br_inv hs
    have kk := kk rfl H locs arr hl hg hW hS
    cases cd with
    | eq =>
      refine lv_icmp_eq hx hb hd hj (fun q => ?_) (fun q => ?_)
      · simpa [dm_cmp, q] using kk
      · simpa [dm_cmp, q] using kk
    | ne =>
      refine lv_icmp_ne hx hb hd hj (fun q => ?_) (fun q => ?_)
      · simpa [dm_cmp, q] using kk
      · simpa [dm_cmp, q] using kk
    | lt =>
      refine lv_icmp_lt hx hb hd hj (fun q => ?_) (fun q => ?_)
      · simpa [dm_cmp, q] using kk
      · simpa [dm_cmp, q] using kk
    | ge =>
      refine lv_icmp_ge hx hb hd hj (fun q => ?_) (fun q => ?_)
      · simpa [dm_cmp, q] using kk
      · simpa [dm_cmp, q] using kk
    | gt =>
      refine lv_icmp_gt hx hb hd hj (fun q => ?_) (fun q => ?_)
      · simpa [dm_cmp, q] using kk
      · simpa [dm_cmp, q] using kk
    | le =>
      refine lv_icmp_le hx hb hd hj (fun q => ?_) (fun q => ?_)
      · simpa [dm_cmp, q] using kk
      · simpa [dm_cmp, q] using kk
  · cases hs

theorem dm_n_ifc (E : dm_E D p s mm args meth c m) {cd : ClassFile.Cond} {off : Int} {len : Nat} (hd : decode (mB m) pc = .ok ((.ifCond cd off : Instr), len)) (hn : dm_len ((.ifCond cd off : Instr)) = 0 ∨ dm_len ((.ifCond cd off : Instr)) = len) (hs : dm_x scr m ((.ifCond cd off : Instr)) pc ls st h = some (.inl S')) (kk : S'.2.2.2.1 = h.1 → dm_go D p l e R s mm args below meth c Q A b m ad ca cells slots S') : dm_go D p l e R s mm args below meth c Q A b m ad ca cells slots (pc, ls, st, h) := by
  intro H locs arr hl hg hW hS
  obtain ⟨hx, hb, hml, ho, hts, hini, hK, hN, hAO⟩ := id E
  obtain rfl : 3 = len := hn.resolve_left (by simp [dm_len])
  simp only [dm_x] at hs
  split at hs
  · obtain ⟨hj, rfl⟩ := dm_br_inv hs
    have kk := kk rfl H locs arr hl hg hW hS
    cases cd with
    | eq =>
      refine lv_if_eq hx hb hd hj (fun q => ?_) (fun q => ?_)
      · simpa [dm_cmp, q] using kk
      · simpa [dm_cmp, q] using kk
    | ne =>
      refine lv_if_ne hx hb hd hj (fun q => ?_) (fun q => ?_)
      · simpa [dm_cmp, q] using kk
      · simpa [dm_cmp, q] using kk
    | lt =>
      refine lv_if_lt hx hb hd hj (fun q => ?_) (fun q => ?_)
      · simpa [dm_cmp, q] using kk
      · simpa [dm_cmp, q] using kk
    | ge =>
      refine lv_if_ge hx hb hd hj (fun q => ?_) (fun q => ?_)
      · simpa [dm_cmp, q] using kk
      · simpa [dm_cmp, q] using kk
    | gt =>
      refine lv_if_gt hx hb hd hj (fun q => ?_) (fun q => ?_)
      · simpa [dm_cmp, q] using kk
      · simpa [dm_cmp, q] using kk
    | le =>
      refine lv_if_le hx hb hd hj (fun q => ?_) (fun q => ?_)
      · simpa [dm_cmp, q] using kk
      · simpa [dm_cmp, q] using kk
  · cases hs

theorem dm_n_tableswitch (E : dm_E D p s mm args meth c m) {d lo hi : Int} {offs : Array Int} {len : Nat} (hd : decode (mB m) pc = .ok ((.tableswitch d lo hi offs : Instr), len)) (hn : dm_len ((.tableswitch d lo hi offs : Instr)) = 0 ∨ dm_len ((.tableswitch d lo hi offs : Instr)) = len) (hs : dm_x scr m ((.tableswitch d lo hi offs : Instr)) pc ls st h = some (.inl S')) (kk : S'.2.2.2.1 = h.1 → dm_go D p l e R s mm args below meth c Q A b m ad ca cells slots S') : dm_go D p l e R s mm args below meth c Q A b m ad ca cells slots (pc, ls, st, h) := by
  intro H locs arr hl hg hW hS
  obtain ⟨hx, hb, hml, ho, hts, hini, hK, hN, hAO⟩ := id E
  simp only [dm_x] at hs
  split at hs
  · next x r =>
    obtain ⟨o1, h1, hj, rfl⟩ := dm_sw_inv hs
    by_cases hc : x.toInt < lo ∨ hi < x.toInt
    · rw [if_pos (by simpa using hc)] at h1
      cases h1
      exact lv_tableOut hx hb hd hc hj (kk rfl H locs arr hl hg hW hS)
    · rw [if_neg (by simpa using hc)] at h1
      exact lv_tableIn hx hb hd (fun q => hc (Or.inl q)) (fun q => hc (Or.inr q)) h1 hj (kk rfl H locs arr hl hg hW hS)
  · cases hs

theorem dm_n_lookupswitch (E : dm_E D p s mm args meth c m) {d : Int} {ps : Array (Int × Int)} {len : Nat} (hd : decode (mB m) pc = .ok ((.lookupswitch d ps : Instr), len)) (hn : dm_len ((.lookupswitch d ps : Instr)) = 0 ∨ dm_len ((.lookupswitch d ps : Instr)) = len) (hs : dm_x scr m ((.lookupswitch d ps : Instr)) pc ls st h = some (.inl S')) (kk : S'.2.2.2.1 = h.1 → dm_go D p l e R s mm args below meth c Q A b m ad ca cells slots S') : dm_go D p l e R s mm args below meth c Q A b m ad ca cells slots (pc, ls, st, h) := by
  intro H locs arr hl hg hW hS
  obtain ⟨hx, hb, hml, ho, hts, hini, hK, hN, hAO⟩ := id E
  simp only [dm_x] at hs
  split at hs
  · next x r =>
    split at hs
    · next hp =>
      obtain ⟨o1, h1, hj, rfl⟩ := dm_sw_inv hs
      cases h1
      exact lv_lookup hx hb hd hp rfl hj (kk rfl H locs arr hl hg hW hS)
    · cases hs
  · cases hs

theorem dm_n_getfield (E : dm_E D p s mm args meth c m) {i : Nat} {len : Nat} (hd : decode (mB m) pc = .ok ((.getfield i : Instr), len)) (hn : dm_len ((.getfield i : Instr)) = 0 ∨ dm_len ((.getfield i : Instr)) = len) (hs : dm_x scr m ((.getfield i : Instr)) pc ls st h = some (.inl S')) (kk : S'.2.2.2.1 = h.1 → dm_go D p l e R s mm args below meth c Q A b m ad ca cells slots S') : dm_go D p l e R s mm args below meth c Q A b m ad ca cells slots (pc, ls, st, h) := by
  intro H locs arr hl hg hW hS
  obtain ⟨hx, hb, hml, ho, hts, hini, hK, hN, hAO⟩ := id E
  obtain rfl : 3 = len := hn.resolve_left (by simp [dm_len])
  simp only [dm_x] at hs
  split at hs
  · next a r =>
    split at hs
    · next ci k nest c0 hF ha =>
      split at hs
      · next hc =>
        obtain rfl := dm_nx_inv hs
        have hc : c0 = ci := by simpa using hc
        subst hc
        obtain ⟨q, hq, hk, hw⟩ := dm_okF hF
        obtain ⟨q1, q2, q3⟩ := q
        have he := dm_w_get (f := dm_cv ad b) (ad := ad) (ca := ca) ha
        have hv : ((List.range (dm_nf c0)).map (fun j => dm_cv ad b (h.2 a j)))[k]? = some (dm_cv ad b (h.2 a k)) := by
          rw [List.getElem?_map, List.getElem?_range (by unfold dm_nf; rw [hq]; exact hk)]
          rfl
        have kk := kk rfl H locs arr hl hg hW hS
        rcases hw with ⟨rfl, hw⟩ | ⟨rfl, hw⟩
        · exact va_getN hx hb hts (fun w h9 => List.mem_cons_of_mem _ ((dm_okK hq).1 w h9)) ho hK hW.1 a he hq k hk (va_Nw.use rfl (hN _ hw)) (fun _ h9 => h9) hv hd kk
        · exact va_get hx hb hts (fun w h9 => List.mem_cons_of_mem _ ((dm_okK hq).1 w h9)) ho hK hW.1 a he hq k hk (hts _ (List.mem_cons_of_mem _ hw)) (fun _ h9 => h9) hv hd kk
      · cases hs
    · cases hs
  · cases hs

theorem dm_n_putfield (E : dm_E D p s mm args meth c m) {i : Nat} {len : Nat} (hd : decode (mB m) pc = .ok ((.putfield i : Instr), len)) (hn : dm_len ((.putfield i : Instr)) = 0 ∨ dm_len ((.putfield i : Instr)) = len) (hs : dm_x scr m ((.putfield i : Instr)) pc ls st h = some (.inl S')) (kk : S'.2.2.2.1 = h.1 → dm_go D p l e R s mm args below meth c Q A b m ad ca cells slots S') : dm_go D p l e R s mm args below meth c Q A b m ad ca cells slots (pc, ls, st, h) := by
  intro H locs arr hl hg hW hS
  obtain ⟨hx, hb, hml, ho, hts, hini, hK, hN, hAO⟩ := id E
  obtain rfl : 3 = len := hn.resolve_left (by simp [dm_len])
  simp only [dm_x] at hs
  split at hs
  · next v a r =>
    split at hs
    · next ci k nest c0 hF ha =>
      split at hs
      · next hc =>
        obtain rfl := dm_nx_inv hs
        simp only [Bool.and_eq_true, beq_iff_eq, Bool.or_eq_true, Bool.not_eq_true'] at hc
        obtain ⟨⟨rfl, hfit⟩, hfin⟩ := hc
        obtain ⟨q, hq, hk, hw⟩ := dm_okF hF
        obtain ⟨q1, q2, q3⟩ := q
        obtain ⟨o1, o2, o3, o4, o5⟩ := dm_okK hq
        have he := dm_w_get (f := dm_cv ad b) (ad := ad) (ca := ca) ha
        obtain ⟨f1, f2, f3⟩ := dm_fit_ok hfit ad b
        have hlen : k < ((List.range (dm_nf c0)).map (fun j => dm_cv ad b (h.2 a j))).length := by
          simp only [List.length_map, List.length_range]
          unfold dm_nf
          rw [hq]
          exact hk
        have hset := dm_w_set (f := dm_cv ad b) (ad := ad) (ca := ca) (K := h.1) (σ := h.2) (a := a) (j := k) (v := v) ha (e := .inr (c0, ((List.range (dm_nf c0)).map (fun j => dm_cv ad b (h.2 a j))).set k (dm_cv ad b v))) (by
          show _ = Sum.inr (c0, (List.range (dm_nf c0)).map (fun j => dm_cv ad b (dm_up h.2 a k v a j)))
          rw [dm_r_set (f := dm_cv ad b) (g := fun j => h.2 a j)]
          simp only [dm_up, true_and])
        have kk' : ∀ (H1 : Heap) (locs1 : List Loc), va_P D dm_cl ((dm_w (dm_cv ad b) ad ca h).set a (ad a, .inr (c0, ((List.range (dm_nf c0)).map (fun j => dm_cv ad b (h.2 a j))).set k (dm_cv ad b v)))) H1 → va_D A ((dm_w (dm_cv ad b) ad ca h).set a (ad a, .inr (c0, ((List.range (dm_nf c0)).map (fun j => dm_cv ad b (h.2 a j))).set k (dm_cv ad b v)))) → va_S A s.heap H1 locs1 → W p l e R s mm args below meth c H1 locs1 cells slots Q (F0 mm (pc + 3) arr (r.map (dm_cv ad b))) := by
          intro H1 locs1 p1 p2 p3
          rw [hset] at p1 p2
          exact kk rfl H1 locs1 arr hl hg ⟨p1, p2, hW.2.2.1, dm_scope hW.2.2.2 f3⟩ p3
        have hin := fun w h9 => List.mem_cons_of_mem (dm_cw m) (o1 w h9)
        cases hfk : dm_fin c0 k with
        | false =>
          have hfk' : (q2 k).2.2.2 = false := by simpa [dm_fin, hq] using hfk
          rcases hw with ⟨rfl, hw⟩ | ⟨rfl, hw⟩
          · exact va_putN hx hb hts hin (dm_tyf c0) o2 o3 ho hK hW.1 hW.2.1 hS a he hq k hk (va_Nw.use rfl (hN _ hw)) (fun _ h9 => h9) hfk' (o2 k hk) f1 f2 hlen hd kk'
          · exact va_put hx hb hts hin (dm_tyf c0) o2 o3 ho hK hW.1 hW.2.1 hS a he hq k hk (hts _ (List.mem_cons_of_mem _ hw)) (fun _ h9 => h9) hfk' (o2 k hk) f1 f2 hlen hd kk'
        | true =>
          have hfk' : (q2 k).2.2.2 = true := by simpa [dm_fin, hq] using hfk
          rw [hfk] at hfin
          have hfin := hfin.resolve_left (by decide)
          obtain ⟨⟨rfl, hi2⟩, hi3⟩ := hfin
          rcases hw with ⟨hw0, -⟩ | ⟨-, hw⟩
          · cases hw0
          · exact va_putF hx hb hts hin (dm_tyf c0) o2 o3 ho hK hW.1 hW.2.1 hS a he hq k hk (hts _ (List.mem_cons_of_mem _ hw)) (fun _ h9 => h9) hfk' (hini hi2) (by rw [o4 k hk]; show q1 = dm_ow.getD (mO m) ""; rw [hi3]; exact o5) (o2 k hk) f1 f2 hlen hd kk'
      · cases hs
    · cases hs
  · cases hs

theorem dm_n_iaload (E : dm_E D p s mm args meth c m) (X : dm_X scr b s A) {len : Nat} (hd : decode (mB m) pc = .ok ((.iaload : Instr), len)) (hn : dm_len ((.iaload : Instr)) = 0 ∨ dm_len ((.iaload : Instr)) = len) (hs : dm_x scr m ((.iaload : Instr)) pc ls st h = some (.inl S')) (kk : S'.2.2.2.1 = h.1 → dm_go D p l e R s mm args below meth c Q A b m ad ca cells slots S') : dm_go D p l e R s mm args below meth c Q A b m ad ca cells slots (pc, ls, st, h) := by
  intro H locs arr hl hg hW hS
  obtain ⟨hx, hb, hml, ho, hts, hini, hK, hN, hAO⟩ := id E
  obtain rfl : 1 = len := hn.resolve_left (by simp [dm_len])
  simp only [dm_x] at hs
  split at hs
  · next i a r =>
    split at hs
    · next n ha =>
      split at hs
      · next hi =>
        obtain rfl := dm_nx_inv hs
        exact va_iald hx hb (dm_K1 hK (hW.2.2.1 a _ ha (by simp))) hW.1 a 0 (dm_w_get ha) rfl (dm_in_vp hi) hd (kk rfl H locs arr hl hg hW hS)
      · cases hs
    · cases hs
  · next i k r =>
    split at hs
    · next n xs =>
      split at hs
      · next hi =>
        obtain rfl := dm_nx_inv hs
        obtain ⟨x1, x2, x3⟩ := X n xs rfl
        exact va_sld hx hb x1 x2 x3 hS (dm_in_vp hi) hd (kk rfl H locs arr hl hg hW hS)
      · cases hs
    · cases hs
  · cases hs

theorem dm_n_baload (E : dm_E D p s mm args meth c m) (X : dm_X scr b s A) {len : Nat} (hd : decode (mB m) pc = .ok ((.baload : Instr), len)) (hn : dm_len ((.baload : Instr)) = 0 ∨ dm_len ((.baload : Instr)) = len) (hs : dm_x scr m ((.baload : Instr)) pc ls st h = some (.inl S')) (kk : S'.2.2.2.1 = h.1 → dm_go D p l e R s mm args below meth c Q A b m ad ca cells slots S') : dm_go D p l e R s mm args below meth c Q A b m ad ca cells slots (pc, ls, st, h) := by
  intro H locs arr hl hg hW hS
  obtain ⟨hx, hb, hml, ho, hts, hini, hK, hN, hAO⟩ := id E
  obtain rfl : 1 = len := hn.resolve_left (by simp [dm_len])
  simp only [dm_x] at hs
  split at hs
  · next i a r =>
    split at hs
    · next n ha =>
      split at hs
      · next hi =>
        obtain rfl := dm_nx_inv hs
        exact va_zald hx hb (dm_K1 hK (hW.2.2.1 a _ ha (by simp))) hW.1 a 0 (dm_w_get ha) rfl (dm_in_vp hi) hd (kk rfl H locs arr hl hg hW hS)
      · cases hs
    · cases hs
  · cases hs

theorem dm_n_iastore (E : dm_E D p s mm args meth c m) {len : Nat} (hd : decode (mB m) pc = .ok ((.iastore : Instr), len)) (hn : dm_len ((.iastore : Instr)) = 0 ∨ dm_len ((.iastore : Instr)) = len) (hs : dm_x scr m ((.iastore : Instr)) pc ls st h = some (.inl S')) (kk : S'.2.2.2.1 = h.1 → dm_go D p l e R s mm args below meth c Q A b m ad ca cells slots S') : dm_go D p l e R s mm args below meth c Q A b m ad ca cells slots (pc, ls, st, h) := by
  intro H locs arr hl hg hW hS
  obtain ⟨hx, hb, hml, ho, hts, hini, hK, hN, hAO⟩ := id E
  obtain rfl : 1 = len := hn.resolve_left (by simp [dm_len])
  simp only [dm_x] at hs
  split at hs
  · next x i a r =>
    split at hs
    · next n ha =>
      split at hs
      · next hi =>
        obtain rfl := dm_nx_inv hs
        refine va_iast hx hb (dm_K1 hK (hW.2.2.1 a _ ha (by simp))) hW.1 hW.2.1 hS a 0 (dm_w_get ha) rfl (dm_in_vp hi) hd (fun H1 locs1 p1 p2 p3 => ?_)
        have hset := dm_w_set (f := dm_cv ad b) (ad := ad) (ca := ca) (K := h.1) (σ := h.2) (a := a) (j := i.toNatClampNeg) (v := .int x) ha rfl
        have hfn : (fun j => dm_i (dm_up h.2 a i.toNatClampNeg (.int x) a j)) = upd (fun j => dm_i (h.2 a j)) i.toNatClampNeg x := by
          funext j
          simp only [dm_up, true_and, upd]
          split <;> rfl
        simp only [dm_e] at hset
        rw [hfn] at hset
        rw [hset] at p1 p2
        exact kk rfl H1 locs1 arr hl hg ⟨p1, p2, hW.2.2.1, dm_scope hW.2.2.2 (fun k hk => by cases hk)⟩ p3
      · cases hs
    · cases hs
  · cases hs

theorem dm_n_bastore (E : dm_E D p s mm args meth c m) {len : Nat} (hd : decode (mB m) pc = .ok ((.bastore : Instr), len)) (hn : dm_len ((.bastore : Instr)) = 0 ∨ dm_len ((.bastore : Instr)) = len) (hs : dm_x scr m ((.bastore : Instr)) pc ls st h = some (.inl S')) (kk : S'.2.2.2.1 = h.1 → dm_go D p l e R s mm args below meth c Q A b m ad ca cells slots S') : dm_go D p l e R s mm args below meth c Q A b m ad ca cells slots (pc, ls, st, h) := by
  intro H locs arr hl hg hW hS
  obtain ⟨hx, hb, hml, ho, hts, hini, hK, hN, hAO⟩ := id E
  obtain rfl : 1 = len := hn.resolve_left (by simp [dm_len])
  simp only [dm_x] at hs
  split at hs
  · next x i a r =>
    split at hs
    · next n ha =>
      split at hs
      · next hi =>
        obtain rfl := dm_nx_inv hs
        refine va_zast hx hb (dm_K1 hK (hW.2.2.1 a _ ha (by simp))) hW.1 hW.2.1 hS a 0 (dm_w_get ha) rfl (dm_in_vp hi) hd (fun H1 locs1 p1 p2 p3 => ?_)
        have hset := dm_w_set (f := dm_cv ad b) (ad := ad) (ca := ca) (K := h.1) (σ := h.2) (a := a) (j := i.toNatClampNeg) (v := .int (vp_nar .boolean x)) ha rfl
        have hfn : (fun j => dm_i (dm_up h.2 a i.toNatClampNeg (.int (vp_nar .boolean x)) a j)) = upd (fun j => dm_i (h.2 a j)) i.toNatClampNeg (vp_nar .boolean x) := by
          funext j
          simp only [dm_up, true_and, upd]
          split <;> rfl
        simp only [dm_e] at hset
        rw [hfn] at hset
        rw [hset] at p1 p2
        exact kk rfl H1 locs1 arr hl hg ⟨p1, p2, hW.2.2.1, dm_scope hW.2.2.2 (fun k hk => by cases hk)⟩ p3
      · cases hs
    · cases hs
  · cases hs

theorem dm_n_aaload (E : dm_E D p s mm args meth c m) {len : Nat} (hd : decode (mB m) pc = .ok ((.aaload : Instr), len)) (hn : dm_len ((.aaload : Instr)) = 0 ∨ dm_len ((.aaload : Instr)) = len) (hs : dm_x scr m ((.aaload : Instr)) pc ls st h = some (.inl S')) (kk : S'.2.2.2.1 = h.1 → dm_go D p l e R s mm args below meth c Q A b m ad ca cells slots S') : dm_go D p l e R s mm args below meth c Q A b m ad ca cells slots (pc, ls, st, h) := by
  intro H locs arr hl hg hW hS
  obtain ⟨hx, hb, hml, ho, hts, hini, hK, hN, hAO⟩ := id E
  obtain rfl : 1 = len := hn.resolve_left (by simp [dm_len])
  simp only [dm_x] at hs
  split at hs
  · next i a r =>
    split at hs
    · next n ha =>
      split at hs
      · next hi =>
        split at hs
        · next k hk =>
          obtain rfl := dm_nx_inv hs
          have kk := kk rfl H locs arr hl hg hW hS
          refine va_aldq (C := "BlindGuides$State") (f := fun j => dm_r (dm_cv ad b (h.2 a j))) hx hb (dm_K1 hK (hW.2.2.1 a _ ha (by simp))) hW.1 a 0 (dm_w_get ha) rfl (dm_in_vp hi) hd ?_
          simp only [hk]
          exact kk
        · cases hs
      · cases hs
    · cases hs
  · cases hs

theorem dm_n_aastore (E : dm_E D p s mm args meth c m) {len : Nat} (hd : decode (mB m) pc = .ok ((.aastore : Instr), len)) (hn : dm_len ((.aastore : Instr)) = 0 ∨ dm_len ((.aastore : Instr)) = len) (hs : dm_x scr m ((.aastore : Instr)) pc ls st h = some (.inl S')) (kk : S'.2.2.2.1 = h.1 → dm_go D p l e R s mm args below meth c Q A b m ad ca cells slots S') : dm_go D p l e R s mm args below meth c Q A b m ad ca cells slots (pc, ls, st, h) := by
  intro H locs arr hl hg hW hS
  obtain ⟨hx, hb, hml, ho, hts, hini, hK, hN, hAO⟩ := id E
  obtain rfl : 1 = len := hn.resolve_left (by simp [dm_len])
  simp only [dm_x] at hs
  split at hs
  · next k i a r =>
    split at hs
    · next n ha hk =>
      split at hs
      · next hi =>
        obtain rfl := dm_nx_inv hs
        refine va_astq hx hb (dm_K1 hK (hW.2.2.1 a _ ha (by simp))) hW.1 hW.2.1 hS a 0 k 7 (r := (RX7, TX7, 7)) (f := fun j => dm_r (dm_cv ad b (h.2 a j))) (dm_w_get ha) rfl (dm_w_get hk) rfl (dm_in_vp hi) hd (fun H1 locs1 p1 p2 p3 => ?_)
        have hset := dm_w_set (f := dm_cv ad b) (ad := ad) (ca := ca) (K := h.1) (σ := h.2) (a := a) (j := i.toNatClampNeg) (v := .ref k) ha rfl
        have hfn : (fun j => dm_r (dm_cv ad b (dm_up h.2 a i.toNatClampNeg (.ref k) a j))) = va_up (fun j => dm_r (dm_cv ad b (h.2 a j))) i.toNatClampNeg (some (ad k)) := by
          funext j
          simp only [dm_up, true_and, va_up]
          split <;> rfl
        simp only [dm_e] at hset
        rw [hfn] at hset
        rw [hset] at p1 p2
        exact kk rfl H1 locs1 arr hl hg ⟨p1, p2, hW.2.2.1, dm_scope hW.2.2.2 (fun k' hk' => by cases hk'; exact (List.getElem?_eq_some_iff.mp hk).1)⟩ p3
      · cases hs
    · cases hs
  · cases hs

theorem dm_n_arraylength (E : dm_E D p s mm args meth c m) (X : dm_X scr b s A) {len : Nat} (hd : decode (mB m) pc = .ok ((.arraylength : Instr), len)) (hn : dm_len ((.arraylength : Instr)) = 0 ∨ dm_len ((.arraylength : Instr)) = len) (hs : dm_x scr m ((.arraylength : Instr)) pc ls st h = some (.inl S')) (kk : S'.2.2.2.1 = h.1 → dm_go D p l e R s mm args below meth c Q A b m ad ca cells slots S') : dm_go D p l e R s mm args below meth c Q A b m ad ca cells slots (pc, ls, st, h) := by
  intro H locs arr hl hg hW hS
  obtain ⟨hx, hb, hml, ho, hts, hini, hK, hN, hAO⟩ := id E
  obtain rfl : 1 = len := hn.resolve_left (by simp [dm_len])
  simp only [dm_x] at hs
  split at hs
  · next a r =>
    split at hs
    · next t n ha =>
      obtain rfl := dm_nx_inv hs
      have kk := kk rfl H locs arr hl hg hW hS
      have he := dm_w_get (f := dm_cv ad b) (ad := ad) (ca := ca) ha
      have hT := dm_K1 hK (hW.2.2.1 a _ ha (by simp))
      rcases t with _ | _ | t
      · exact va_alen hx hb hT hW.1 a 0 he rfl rfl hd kk
      · exact va_alen hx hb hT hW.1 a 0 he rfl rfl hd kk
      · exact va_alen hx hb hT hW.1 a 0 he rfl rfl hd kk
    · cases hs
  · next k r =>
    split at hs
    · next n xs =>
      obtain rfl := dm_nx_inv hs
      obtain ⟨x1, x2, x3⟩ := X n xs rfl
      exact va_slen hx hb x1 x2 x3 hS hd (kk rfl H locs arr hl hg hW hS)
    · cases hs
  · cases hs

end DMX
