/-! what the tables say, checked by the kernel -/
def dm_has (w : Jvm.Cond) : Bool := decide (w ∈ lw_tbl) && goodWord w
theorem dm_has_T {w : Jvm.Cond} (h : dm_has w = true) : w ∈ dm_T := by
  unfold dm_has at h
  rw [Bool.and_eq_true, decide_eq_true_eq] at h
  exact List.mem_filter.mpr ⟨h.1, by simpa using h.2⟩
theorem dm_T_good {w : Jvm.Cond} (h : w ∈ dm_T) : goodWord w = true := (List.mem_filter.mp h).2
theorem dm_T_tbl {w : Jvm.Cond} (h : w ∈ dm_T) : w ∈ lw_tbl := (List.mem_filter.mp h).1
def dm_max : Nat := 131
def dm_min : Nat := 132
def dm_isN : Jvm.Cond → Bool := fun w => match w with
  | .fieldLinkNest _ _ _ _ _ _ => true
  | .methodLinkNest _ _ _ _ => true
  | _ => false
def dm_N : List Jvm.Cond := lw_tbl.filter dm_isN
def dm_hasN (w : Jvm.Cond) : Bool := decide (w ∈ lw_tbl) && dm_isN w
theorem dm_has_N {w : Jvm.Cond} (h : dm_hasN w = true) : w ∈ dm_N := by
  unfold dm_hasN at h
  rw [Bool.and_eq_true, decide_eq_true_eq] at h
  exact List.mem_filter.mpr ⟨h.1, by simpa using h.2⟩
theorem dm_N_tbl {w : Jvm.Cond} (h : w ∈ dm_N) : w ∈ lw_tbl := (List.mem_filter.mp h).1
theorem dm_N_warm {w : Jvm.Cond} (h : w ∈ dm_N) {s U : State} (hW : s.WarmedH U.vm) (hz : va_Nw w s) : va_Nw w U := by
  have h2 := (List.mem_filter.mp h).2
  cases w <;> first | exact va_Nw.warmF hW hz | exact va_Nw.warmM hW hz | (simp [dm_isN] at h2; done)
theorem dm_N_on {w : Jvm.Cond} (h : w ∈ dm_N) : w.onTables = true := by
  have h2 := (List.mem_filter.mp h).2
  cases w <;> first | rfl | (simp [dm_isN] at h2; done)
/-- fields -/
def dm_wF (o i : Nat) (T : u_T) (k : Nat) (nest : Bool) : Jvm.Cond := if nest then Cond.fieldLinkNest (dm_ow.getD o "") i (T k).1 (T k).2.1 (T k).2.2.1 "BlindGuides" else Cond.fieldLink (dm_ow.getD o "") i (T k).1 (T k).2.1 (T k).2.2.1
def dm_ckF (o : Nat) (e : Nat × Nat × Nat × Bool) : Bool := match dm_cl[e.2.1]? with
  | none => false
  | some q => decide (e.2.2.1 < q.2.2) && (if e.2.2.2 then dm_hasN (dm_wF o e.1 q.2.1 e.2.2.1 e.2.2.2) else dm_has (dm_wF o e.1 q.2.1 e.2.2.1 e.2.2.2))
set_option maxRecDepth 100000 in
theorem dm_okF0 : (List.range dm_nO).all (fun o => (dm_fl o).all (dm_ckF o)) = true := by decide +kernel
theorem dm_okF {o i ci k : Nat} {nest : Bool} (h : rF o i = some (ci, k, nest)) : ∃ q : vw_C, dm_cl[ci]? = some q ∧ k < q.2.2 ∧ ((nest = true ∧ dm_wF o i q.2.1 k true ∈ dm_N) ∨ (nest = false ∧ dm_wF o i q.2.1 k false ∈ dm_T)) := by
  unfold rF at h
  split at h
  · cases h
  · next ho =>
    rw [Option.map_eq_some_iff] at h
    obtain ⟨e, he, h2⟩ := h
    have h3 := List.find?_some he
    have h4 := List.mem_of_find?_eq_some he
    have h5 := List.all_eq_true.mp (List.all_eq_true.mp dm_okF0 o (List.mem_range.mpr (Nat.lt_of_not_le ho))) e h4
    obtain ⟨e1, e2⟩ := e
    subst h2
    have h6 : e1 = i := by simpa using h3
    subst h6
    unfold dm_ckF at h5
    dsimp only at h5
    split at h5
    · cases h5
    · next q hq =>
      rw [Bool.and_eq_true, decide_eq_true_eq] at h5
      refine ⟨q, hq, h5.1, ?_⟩
      cases nest with
      | true => exact Or.inl ⟨rfl, dm_has_N h5.2⟩
      | false => exact Or.inr ⟨rfl, dm_has_T h5.2⟩
-- constants
set_option maxRecDepth 100000 in
theorem dm_okC0 : (List.range dm_nO).all (fun o => (dm_cn o).all (fun e => dm_has (Cond.constant (dm_ow.getD o "") e.1 e.2))) = true := by decide +kernel
theorem dm_okC {o i : Nat} {v : Int32} (h : rC o i = some v) : Cond.constant (dm_ow.getD o "") i v ∈ dm_T := by
  unfold rC at h
  split at h
  · cases h
  · next ho =>
    rw [Option.map_eq_some_iff] at h
    obtain ⟨e, he, h2⟩ := h
    have h3 := List.find?_some he
    have h5 := List.all_eq_true.mp (List.all_eq_true.mp dm_okC0 o (List.mem_range.mpr (Nat.lt_of_not_le ho))) e (List.mem_of_find?_eq_some he)
    obtain ⟨e1, e2⟩ := e
    subst h2
    have h6 : e1 = i := by simpa using h3
    subst h6
    exact dm_has_T h5
set_option maxRecDepth 100000 in
theorem dm_okL0 : (List.range dm_nO).all (fun o => (dm_ln o).all (fun e => dm_has (Cond.constantLong (dm_ow.getD o "") e.1 e.2))) = true := by decide +kernel
theorem dm_okL {o i : Nat} {v : Int64} (h : rL o i = some v) : Cond.constantLong (dm_ow.getD o "") i v ∈ dm_T := by
  unfold rL at h
  split at h
  · cases h
  · next ho =>
    rw [Option.map_eq_some_iff] at h
    obtain ⟨e, he, h2⟩ := h
    have h3 := List.find?_some he
    have h5 := List.all_eq_true.mp (List.all_eq_true.mp dm_okL0 o (List.mem_range.mpr (Nat.lt_of_not_le ho))) e (List.mem_of_find?_eq_some he)
    obtain ⟨e1, e2⟩ := e
    subst h2
    have h6 : e1 = i := by simpa using h3
    subst h6
    exact dm_has_T h5
/-- classes to make objects of -/
def dm_ckN (o : Nat) (e : Nat × Nat) : Bool := match dm_cl[e.2]? with
  | none => false
  | some q => dm_has (Cond.classLink (dm_ow.getD o "") e.1 q.1) && dm_has (Cond.instantiable q.1 q.2.2) && dm_has (Cond.initialized q.1)
set_option maxRecDepth 100000 in
theorem dm_okN0 : (List.range dm_nO).all (fun o => (dm_nw o).all (dm_ckN o)) = true := by decide +kernel
theorem dm_okN {o i ci : Nat} (h : rN o i = some ci) : ∃ q : vw_C, dm_cl[ci]? = some q ∧ Cond.classLink (dm_ow.getD o "") i q.1 ∈ dm_T ∧ Cond.instantiable q.1 q.2.2 ∈ dm_T ∧ Cond.initialized q.1 ∈ dm_T := by
  unfold rN at h
  split at h
  · cases h
  · next ho =>
    rw [Option.map_eq_some_iff] at h
    obtain ⟨e, he, h2⟩ := h
    have h3 := List.find?_some he
    have h5 := List.all_eq_true.mp (List.all_eq_true.mp dm_okN0 o (List.mem_range.mpr (Nat.lt_of_not_le ho))) e (List.mem_of_find?_eq_some he)
    obtain ⟨e1, e2⟩ := e
    subst h2
    have h6 : e1 = i := by simpa using h3
    subst h6
    unfold dm_ckN at h5
    dsimp only at h5
    split at h5
    · cases h5
    · next q hq =>
      rw [Bool.and_eq_true, Bool.and_eq_true] at h5
      exact ⟨q, hq, dm_has_T h5.1.1, dm_has_T h5.1.2, dm_has_T h5.2⟩
/-- methods: the words of a call by its kind -/
def dm_wM (o i : Nat) (y : MethodName) (kd : Nat) : List Jvm.Cond := match kd with
  | 0 => [.methodLink (dm_ow.getD o "") i y, .instanceMethod y, .selects y.cls y y, .initialized y.cls]
  | 1 => [.methodLinkNest (dm_ow.getD o "") i y "BlindGuides", .instanceMethod y, .selects y.cls y y, .initialized y.cls]
  | 3 => [.methodLinkNest (dm_ow.getD o "") i y "BlindGuides", .static y, .initialized y.cls]
  | 5 => [.methodLink (dm_ow.getD o "") i y, .instanceMethod y, .initialized y.cls]
  | 6 => [.methodLinkNest (dm_ow.getD o "") i y "BlindGuides", .instanceMethod y, .initialized y.cls]
  | 7 => [.methodLink (dm_ow.getD o "") i Lib.objectInit, .instanceMethod Lib.objectInit]
  | _ => [.methodLink (dm_ow.getD o "") i y, .static y, .initialized y.cls]
theorem dm_ch_tbl {j p : Nat} {w : Jvm.Cond} (h : (dm_ch j)[p]? = some w) : w ∈ lw_tbl := by
  have hm : w ∈ dm_ch j := List.mem_of_getElem? h
  unfold lw_tbl tables_1
  simp only [List.mem_append]
  unfold dm_ch at hm
  split at hm
  · exact Or.inl hm
  · exact Or.inr (Or.inl hm)
  · exact Or.inr (Or.inr (Or.inl hm))
  · exact Or.inr (Or.inr (Or.inr (Or.inl hm)))
  · exact Or.inr (Or.inr (Or.inr (Or.inr hm)))
def dm_ckw (w : Jvm.Cond) (q : Nat × Nat) : Bool := decide ((dm_ch q.1)[q.2]? = some w) && (dm_isN w || goodWord w)
def dm_ckws : List Jvm.Cond → List (Nat × Nat) → Bool
  | [], [] => true
  | w :: ws, q :: qs => dm_ckw w q && dm_ckws ws qs
  | _, _ => false
theorem dm_ckws_all : ∀ (ws : List Jvm.Cond) (qs : List (Nat × Nat)), dm_ckws ws qs = true → ∀ w ∈ ws, w ∈ dm_T ∨ w ∈ dm_N
  | [], _, _, w, hw => absurd hw List.not_mem_nil
  | a :: ws, [], h, _, _ => by simp [dm_ckws] at h
  | a :: ws, q :: qs, h, w, hw => by
    simp only [dm_ckws, Bool.and_eq_true] at h
    rcases List.mem_cons.mp hw with rfl | hw
    · have h1 := h.1
      simp only [dm_ckw, Bool.and_eq_true, decide_eq_true_eq, Bool.or_eq_true] at h1
      rcases h1.2 with h2 | h2
      · exact Or.inr (List.mem_filter.mpr ⟨dm_ch_tbl h1.1, h2⟩)
      · exact Or.inl (List.mem_filter.mpr ⟨dm_ch_tbl h1.1, h2⟩)
    · exact dm_ckws_all ws qs h.2 w hw
def dm_ckm (e : Nat × Nat × Nat) : Bool := e.2.2 == 7 || (
  decide ((mY e.2.1).cls ≠ "java/lang/invoke/MethodHandle" ∧ (mY e.2.1).cls ≠ "java/lang/invoke/VarHandle" ∧ (parseMethodDescriptor (mY e.2.1).desc).map (fun d => d.parameters.length) = some (mN e.2.1)) &&
  (e.2.2 == 8 || e.2.2 == 9 || plainName (mY e.2.1).cls) && decide ((mY e.2.1).cls = dm_own e.2.1) && (decide ((mY e.2.1).name = "<init>" ∧ mR e.2.1 = none) || (e.2.2 != 5 && e.2.2 != 6)) && (e.2.2 != 8 || e.2.1 == dm_max) && (e.2.2 != 9 || e.2.1 == dm_min) && (dm_cis.any (fun c => c.1 == e.2.1)))
def dm_ckM (o : Nat) : List (Nat × Nat × Nat) → List (List (Nat × Nat)) → Bool
  | [], _ => true
  | e :: es, q :: qs => dm_ckws (dm_wM o e.1 (mY e.2.1) e.2.2) q && dm_ckm e && dm_ckM o es qs
  | _, _ => false
theorem dm_ckM_all {o : Nat} : ∀ (es : List (Nat × Nat × Nat)) (qs : List (List (Nat × Nat))), dm_ckM o es qs = true → ∀ e ∈ es, (∀ w ∈ dm_wM o e.1 (mY e.2.1) e.2.2, w ∈ dm_T ∨ w ∈ dm_N) ∧ dm_ckm e = true
  | [], _, _, e, he => absurd he List.not_mem_nil
  | a :: es, [], h, _, _ => by simp [dm_ckM] at h
  | a :: es, q :: qs, h, e, he => by
    simp only [dm_ckM, Bool.and_eq_true] at h
    rcases List.mem_cons.mp he with rfl | he
    · exact ⟨dm_ckws_all _ _ h.1.1, h.1.2⟩
    · exact dm_ckM_all es qs h.2 e he
set_option maxRecDepth 100000 in
theorem dm_okM0 : (List.range 10).all (fun o => dm_ckM o (dm_ml o) (dm_mp o)) = true := by decide +kernel
set_option maxRecDepth 100000 in
theorem dm_okM2 : (List.range 4).all (fun o => dm_ckM (10 + o) (dm_ml (10 + o)) (dm_mp (10 + o))) = true := by decide +kernel
theorem dm_okM3 {o : Nat} (h : o < dm_nO) : dm_ckM o (dm_ml o) (dm_mp o) = true := by
  have h : o < 14 := h
  rcases Nat.lt_or_ge o 10 with h1 | h1
  · exact List.all_eq_true.mp dm_okM0 o (List.mem_range.mpr h1)
  · have h3 := List.all_eq_true.mp dm_okM2 (o - 10) (List.mem_range.mpr (by omega))
    rw [show 10 + (o - 10) = o by omega] at h3
    exact h3
theorem dm_cp_mem {l : List (Nat × Nat)} {t : List Jvm.Cond} (h : l.map (fun e => some (dm_cw e.1)) = l.map (fun e => t[e.2]?)) (ht : ∀ w ∈ t, w ∈ lw_tbl) {y : Nat} (hy : l.any (fun c => c.1 == y) = true) : dm_cw y ∈ lw_tbl := by
  obtain ⟨c, hc, he⟩ := List.any_eq_true.mp hy
  have he : c.1 = y := by simpa using he
  obtain ⟨i, hi⟩ := List.getElem?_of_mem hc
  have h1 : (l.map (fun e => some (dm_cw e.1)))[i]? = (l.map (fun e => t[e.2]?))[i]? := by rw [h]
  rw [List.getElem?_map, List.getElem?_map, hi] at h1
  have h2 : some (dm_cw c.1) = t[c.2]? := Option.some.inj h1
  rw [← he]
  exact ht _ (List.mem_of_getElem? h2.symm)
theorem dm_cw_T {y : Nat} (hy : dm_cis.any (fun c => c.1 == y) = true) : dm_cw y ∈ dm_T := by
  refine List.mem_filter.mpr ⟨?_, rfl⟩
  unfold dm_cis at hy
  simp only [List.any_append, Bool.or_eq_true] at hy
  rcases hy with ((hy | hy) | hy) | hy
  · exact dm_cp_mem dm_cp1 (fun w hw => by obtain ⟨p, hp⟩ := List.getElem?_of_mem hw; exact dm_ch_tbl (j := 1) hp) hy
  · exact dm_cp_mem dm_cp2 (fun w hw => by obtain ⟨p, hp⟩ := List.getElem?_of_mem hw; exact dm_ch_tbl (j := 2) hp) hy
  · exact dm_cp_mem dm_cp3 (fun w hw => by obtain ⟨p, hp⟩ := List.getElem?_of_mem hw; exact dm_ch_tbl (j := 3) hp) hy
  · exact dm_cp_mem dm_cp4 (fun w hw => by obtain ⟨p, hp⟩ := List.getElem?_of_mem hw; exact dm_ch_tbl (j := 4) hp) hy
theorem dm_okM {o i y kd : Nat} (h : rM o i = some (y, kd)) : (∀ w ∈ dm_wM o i (mY y) kd, w ∈ dm_T ∨ w ∈ dm_N) ∧ dm_ckm (i, y, kd) = true := by
  unfold rM at h
  split at h
  · cases h
  · next ho =>
    rw [Option.map_eq_some_iff] at h
    obtain ⟨e, he, h2⟩ := h
    have h3 := List.find?_some he
    have h5 := dm_ckM_all _ _ (dm_okM3 (Nat.lt_of_not_le ho)) e (List.mem_of_find?_eq_some he)
    obtain ⟨e1, e2⟩ := e
    subst h2
    have h6 : e1 = i := by simpa using h3
    subst h6
    exact h5
/-- classes: their words, types, names of fields -/
def dm_ckK (c : Nat) : Bool := match dm_cl[c]? with
  | none => false
  | some q => (u_ws q.1 q.2.1 q.2.2).all dm_has && (List.range q.2.2).all (fun k => decide (parseFieldDescriptor (q.2.1 k).2.2.1 = some (dm_tyf c k))) && (List.range q.2.2).all (fun a => (List.range q.2.2).all (fun b => a == b || decide ((q.2.1 a).2.1 ≠ (q.2.1 b).2.1))) && (List.range q.2.2).all (fun k => decide ((q.2.1 k).1 = q.1)) && decide (q.1 = dm_ow.getD c "")
set_option maxRecDepth 100000 in
theorem dm_okK0 : (List.range 10).all dm_ckK = true := by decide +kernel
theorem dm_okK {c : Nat} {q : vw_C} (h : dm_cl[c]? = some q) : (∀ w ∈ u_ws q.1 q.2.1 q.2.2, w ∈ dm_T) ∧ (∀ k, k < q.2.2 → parseFieldDescriptor (q.2.1 k).2.2.1 = some (dm_tyf c k)) ∧ (∀ a, a < q.2.2 → ∀ b, b < q.2.2 → a ≠ b → (q.2.1 a).2.1 ≠ (q.2.1 b).2.1) ∧ (∀ k, k < q.2.2 → (q.2.1 k).1 = q.1) ∧ q.1 = dm_ow.getD c "" := by
  have hc : c < 10 := (List.getElem?_eq_some_iff.mp h).1
  have h1 := List.all_eq_true.mp dm_okK0 c (List.mem_range.mpr hc)
  unfold dm_ckK at h1
  rw [h] at h1
  dsimp only at h1
  simp only [Bool.and_eq_true, List.all_eq_true, List.mem_range, decide_eq_true_eq, Bool.or_eq_true, beq_iff_eq] at h1
  obtain ⟨⟨⟨⟨a1, a2⟩, a3⟩, a4⟩, a5⟩ := h1
  exact ⟨fun w hw => dm_has_T (a1 w hw), a2, fun a ha b hb hn => (a3 a ha b hb).resolve_left hn, a4, a5⟩
set_option maxRecDepth 100000 in
theorem dm_okA : dm_has (.arrayClass .int) = true ∧ Jvm.Cond.arrayOver (.object "BlindGuides$State") ∈ lw_tbl := by decide +kernel
