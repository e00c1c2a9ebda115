/-! the machine's heap as a world of the kit; locals -/
def dm_cv (ad : Nat → Nat) (b : Nat) : Value → Value := fun v => match v with
  | .ref k => .ref (ad k)
  | .retAddr _ => .ref b
  | .int x => .int x
  | .long x => .long x
  | .float x => .float x
  | .double x => .double x
  | .null => .null
theorem dm_cv_cat (ad : Nat → Nat) (b : Nat) (v : Value) : (dm_cv ad b v).category = v.category := by cases v <;> rfl
def dm_aty (t : Nat) : FieldType := if t = 1 then .int else if t = 2 then .boolean else .object "BlindGuides$State"
def dm_e (f : Value → Value) (cA : ClassId) (kd : Nat × Nat) (g : Nat → Value) : va_E := match kd with
  | (0, c) => .inr (c, (List.range (dm_nf c)).map (fun j => f (g j)))
  | (1, n) => .inl (cA, (n, .inl (fun j => dm_i (g j))))
  | (2, n) => .inl (cA, (n, .inl (fun j => dm_i (g j))))
  | (_, n) => .inl (cA, (n, .inr (.inr (.inr (.inr (fun j => dm_r (f (g j))))))))
def dm_w (f : Value → Value) (ad : Nat → Nat) (ca : Nat → ClassId) (h : dm_H) : va_W := (List.range h.1.length).map (fun k => (ad k, dm_e f (ca k) (h.1.getD k (0, 0)) (h.2 k)))
theorem dm_w_get {f : Value → Value} {ad : Nat → Nat} {ca : Nat → ClassId} {h : dm_H} {k : Nat} {kd : Nat × Nat} (hk : h.1[k]? = some kd) : (dm_w f ad ca h)[k]? = some (ad k, dm_e f (ca k) kd (h.2 k)) := by
  have hl := (List.getElem?_eq_some_iff.mp hk).1
  unfold dm_w
  rw [List.getElem?_map, List.getElem?_range hl]
  simp [hk]
theorem dm_w_len {f : Value → Value} {ad : Nat → Nat} {ca : Nat → ClassId} {h : dm_H} : (dm_w f ad ca h).length = h.1.length := by simp [dm_w]
theorem dm_w_at {f : Value → Value} {ad : Nat → Nat} {ca : Nat → ClassId} {h : dm_H} {k : Nat} {q : Nat × va_E} (hq : (dm_w f ad ca h)[k]? = some q) : ∃ kd, h.1[k]? = some kd ∧ q = (ad k, dm_e f (ca k) kd (h.2 k)) := by
  have hl : k < h.1.length := by rw [← dm_w_len (f := f) (ad := ad) (ca := ca)]; exact (List.getElem?_eq_some_iff.mp hq).1
  obtain ⟨kd, hk⟩ : ∃ kd, h.1[k]? = some kd := ⟨_, List.getElem?_eq_getElem hl⟩
  rw [dm_w_get hk] at hq
  exact ⟨kd, hk, (Option.some.inj hq).symm⟩
theorem dm_up_ne {σ : dm_G} {k j a : Nat} {v : Value} (h : a ≠ k) : dm_up σ k j v a = σ a := by
  funext b
  simp [dm_up, h]
theorem dm_w_set {f : Value → Value} {ad : Nat → Nat} {ca : Nat → ClassId} {K : List (Nat × Nat)} {σ : dm_G} {a j : Nat} {v : Value} {kd : Nat × Nat} {e : va_E} (hk : K[a]? = some kd) (he : e = dm_e f (ca a) kd (dm_up σ a j v a)) :
    (dm_w f ad ca (K, σ)).set a (ad a, e) = dm_w f ad ca (K, dm_up σ a j v) := by
  subst he
  have hl : a < K.length := (List.getElem?_eq_some_iff.mp hk).1
  refine List.ext_getElem? fun k => ?_
  by_cases hka : k = a
  · subst hka
    rw [List.getElem?_set_self (by rw [dm_w_len]; exact hl), dm_w_get (h := (K, dm_up σ k j v)) hk]
  · rw [List.getElem?_set_ne (Ne.symm hka)]
    rcases Nat.lt_or_ge k K.length with h1 | h1
    · obtain ⟨kd', hk'⟩ : ∃ kd', K[k]? = some kd' := ⟨_, List.getElem?_eq_getElem h1⟩
      rw [dm_w_get (h := (K, σ)) hk', dm_w_get (h := (K, dm_up σ a j v)) hk']
      show _ = some (ad k, dm_e f (ca k) kd' (dm_up σ a j v k))
      rw [dm_up_ne hka]
    · rw [List.getElem?_eq_none (by rw [dm_w_len]; exact h1), List.getElem?_eq_none (by rw [dm_w_len]; exact h1)]
theorem dm_r_set {n k : Nat} {f : Value → Value} {g : Nat → Value} {v : Value} : ((List.range n).map (fun j => f (g j))).set k (f v) = (List.range n).map (fun j => f (if j = k then v else g j)) := by
  refine List.ext_getElem? fun i => ?_
  by_cases hi : i = k
  · subst hi
    by_cases hl : i < n
    · rw [List.getElem?_set_self (by simpa using hl), List.getElem?_map, List.getElem?_range hl]
      simp
    · rw [List.getElem?_eq_none (by simpa using hl), List.getElem?_eq_none (by simpa using hl)]
  · rw [List.getElem?_set_ne (Ne.symm hi), List.getElem?_map, List.getElem?_map]
    rcases Nat.lt_or_ge i n with h | h
    · rw [List.getElem?_range h]
      simp [hi]
    · rw [List.getElem?_eq_none (by simpa using h)]
      rfl
def dm_W (D : va_G) (A : Nat → Prop) (b : Nat) (ad : Nat → Nat) (ca : Nat → ClassId) (h : dm_H) (s : State) (H : Heap) : Prop :=
  va_P D dm_cl (dm_w (dm_cv ad b) ad ca h) H ∧ va_D A (dm_w (dm_cv ad b) ad ca h) ∧ (∀ (k : Nat) (kd : Nat × Nat), h.1[k]? = some kd → kd.1 ≠ 0 → ArrOfT s (ca k) (dm_aty kd.1) ∧ va_RA s (ca k) (dm_aty kd.1)) ∧ (∀ k j k' : Nat, k < h.1.length → h.2 k j = .ref k' → k' < h.1.length)
def dm_E (D : va_G) (p : Program) (s : State) (mm : MethodId) (args : Array Value) (meth : Method) (c : Code) (m : Nat) : Prop :=
  p.tables.exec = Jvm.exec ∧ c.code = mB m ∧ c.maxLocals = mX m ∧ s.vm.findClass (dm_own m) = some mm.cls ∧ (∀ w ∈ dm_Ts m, w.before args s = true) ∧ ((mY m).name = "<init>" → meth.name = "<init>") ∧ va_K D dm_cl [] s ∧ (∀ w ∈ dm_N, va_Nw w s) ∧ va_AO "BlindGuides$State" s
def dm_X (scr : dm_Sc) (b : Nat) (s : State) (A : Nat → Prop) : Prop := ∀ (L : Nat) (xs : Nat → Int32), scr = some (L, xs) → va_X b L xs s s.heap ∧ b < s.heap.size ∧ ¬ A b
/-- locals -/
def dm_lh (arr : Array Slot) (n : Nat) (f : Value → Value) (ls : dm_L) : Prop := arr.size = n ∧ lv_wf arr ∧ ∀ (k : Nat) (v : Value), ls[k]? = some (some v) → arr[k]? = some (.val (f v))
def dm_lg (m : Nat) (ls : dm_L) : Prop := ls.length = mX m ∧ ∀ (k : Nat) (v : Value), ls[k]? = some (some v) → v.category = 2 → k ∈ mG m
def dm_pl (f : Value → Value) : Nat → dm_L → List (Nat × Value) := fun i ls => match ls with
  | [] => []
  | some v :: t => (i, f v) :: dm_pl f (i + 1) t
  | none :: t => dm_pl f (i + 1) t
theorem dm_pl_mem {f : Value → Value} {k : Nat} {w : Value} : ∀ (ls : dm_L) (i : Nat), (k, w) ∈ dm_pl f i ls ↔ ∃ (j : Nat) (v : Value), k = i + j ∧ ls[j]? = some (some v) ∧ w = f v := by
  intro ls
  induction ls with
  | nil => intro i; simp [dm_pl]
  | cons o t ih =>
    intro i
    have key : (∃ (j : Nat) (v : Value), k = i + j ∧ (o :: t)[j]? = some (some v) ∧ w = f v) ↔ ((∃ v, o = some v ∧ k = i ∧ w = f v) ∨ ∃ (j : Nat) (v : Value), k = i + 1 + j ∧ t[j]? = some (some v) ∧ w = f v) := by
      constructor
      · rintro ⟨j, v, h1, h2, h3⟩
        cases j with
        | zero => exact Or.inl ⟨v, by simpa using h2, by omega, h3⟩
        | succ j => exact Or.inr ⟨j, v, by omega, by simpa using h2, h3⟩
      · rintro (⟨v, h1, h2, h3⟩ | ⟨j, v, h1, h2, h3⟩)
        · exact ⟨0, v, by omega, by simp [h1], h3⟩
        · exact ⟨j + 1, v, by omega, by simpa using h2, h3⟩
    rw [key, ← ih (i + 1)]
    cases o with
    | none => simp [dm_pl]
    | some v =>
      simp only [dm_pl, List.mem_cons, Prod.mk.injEq, Option.some.injEq]
      constructor
      · rintro (⟨h1, h2⟩ | h)
        · exact Or.inl ⟨v, rfl, h1, h2⟩
        · exact Or.inr h
      · rintro (⟨v', h1, h2, h3⟩ | h)
        · subst h1
          exact Or.inl ⟨h2, h3⟩
        · exact Or.inr h
theorem dm_lh.has {arr : Array Slot} {n : Nat} {f : Value → Value} {ls : dm_L} (h : dm_lh arr n f ls) : lv_has arr n (dm_pl f 0 ls) := by
  refine ⟨h.1, h.2.1, fun q hq => ?_⟩
  obtain ⟨k, w⟩ := q
  obtain ⟨j, v, h1, h2, h3⟩ := (dm_pl_mem ls 0).mp hq
  have h1 : k = j := by omega
  subst h1
  subst h3
  exact h.2.2 k v h2
theorem dm_store {m : Nat} {arr arr' : Array Slot} {ad : Nat → Nat} {b : Nat} {ls : dm_L} {i : Nat} {v : Value} (hl : dm_lh arr (mX m) (dm_cv ad b) ls) (hg : dm_lg m ls) (hs : dm_s1 m i ls = true) (hc : v.category = 1)
    (h : lv_has arr' (mX m) ((i, dm_cv ad b v) :: (dm_pl (dm_cv ad b) 0 ls).filter (fun q => !(q.1 == i) && !(q.1 + 1 == i && q.2.category == 2)))) : dm_lh arr' (mX m) (dm_cv ad b) (ls.set i (some v)) ∧ dm_lg m (ls.set i (some v)) := by
  simp only [dm_s1, Bool.and_eq_true, decide_eq_true_eq, Bool.not_eq_true', List.any_eq_false, beq_iff_eq] at hs
  refine ⟨⟨h.1, h.2.1, fun k w hk => ?_⟩, ⟨by rw [List.length_set]; exact hg.1, fun k w hk hw => ?_⟩⟩
  · by_cases hki : k = i
    · subst hki
      rw [List.getElem?_set_self hs.1] at hk
      cases hk
      exact h.2.2 (k, dm_cv ad b v) List.mem_cons_self
    · rw [List.getElem?_set_ne (Ne.symm hki)] at hk
      refine h.2.2 (k, dm_cv ad b w) (List.mem_cons_of_mem _ (List.mem_filter.mpr ⟨(dm_pl_mem ls 0).mpr ⟨k, w, by omega, hk, rfl⟩, ?_⟩))
      simp only [Bool.and_eq_true, Bool.not_eq_true', beq_eq_false_iff_ne, ne_eq, Bool.and_eq_false_iff]
      refine ⟨hki, ?_⟩
      by_cases h2 : w.category = 2
      · exact Or.inl (hs.2 k (hg.2 k w hk h2))
      · exact Or.inr (by rw [dm_cv_cat]; exact h2)
  · by_cases hki : k = i
    · subst hki
      rw [List.getElem?_set_self hs.1] at hk
      cases hk
      omega
    · rw [List.getElem?_set_ne (Ne.symm hki)] at hk
      exact hg.2 k w hk hw
theorem dm_storel {m : Nat} {arr arr' : Array Slot} {ad : Nat → Nat} {b : Nat} {ls : dm_L} {i : Nat} {x : Int64} (hl : dm_lh arr (mX m) (dm_cv ad b) ls) (hg : dm_lg m ls) (hs : dm_s2 m i ls = true)
    (h : lv_has arr' (mX m) ((i, Value.long x) :: (dm_pl (dm_cv ad b) 0 ls).filter (fun q => !(q.1 == i) && (!(q.1 == i + 1) && !(q.1 + 1 == i && q.2.category == 2))))) : dm_lh arr' (mX m) (dm_cv ad b) ((ls.set i (some (.long x))).set (i + 1) none) ∧ dm_lg m ((ls.set i (some (.long x))).set (i + 1) none) := by
  simp only [dm_s2, Bool.and_eq_true, decide_eq_true_eq, Bool.not_eq_true', List.any_eq_false, beq_iff_eq, List.contains_iff_mem] at hs
  obtain ⟨⟨h1, h2⟩, h3⟩ := hs
  have key : ∀ (k : Nat) (w : Value), ((ls.set i (some (.long x))).set (i + 1) none)[k]? = some (some w) → (k = i ∧ w = .long x) ∨ (k ≠ i ∧ k ≠ i + 1 ∧ ls[k]? = some (some w)) := by
    intro k w hk
    by_cases hk1 : k = i + 1
    · subst hk1
      rw [List.getElem?_set_self (by rw [List.length_set]; exact h1)] at hk
      cases hk
    · rw [List.getElem?_set_ne (Ne.symm hk1)] at hk
      by_cases hki : k = i
      · subst hki
        rw [List.getElem?_set_self (by omega)] at hk
        cases hk
        exact Or.inl ⟨rfl, rfl⟩
      · rw [List.getElem?_set_ne (Ne.symm hki)] at hk
        exact Or.inr ⟨hki, hk1, hk⟩
  refine ⟨⟨h.1, h.2.1, fun k w hk => ?_⟩, ⟨by rw [List.length_set, List.length_set]; exact hg.1, fun k w hk hw => ?_⟩⟩
  · rcases key k w hk with ⟨rfl, rfl⟩ | ⟨hki, hk1, hk⟩
    · exact h.2.2 (k, Value.long x) List.mem_cons_self
    · refine h.2.2 (k, dm_cv ad b w) (List.mem_cons_of_mem _ (List.mem_filter.mpr ⟨(dm_pl_mem ls 0).mpr ⟨k, w, by omega, hk, rfl⟩, ?_⟩))
      simp only [Bool.and_eq_true, Bool.not_eq_true', beq_eq_false_iff_ne, ne_eq, Bool.and_eq_false_iff]
      refine ⟨hki, hk1, ?_⟩
      by_cases h4 : w.category = 2
      · exact Or.inl (h3 k (hg.2 k w hk h4))
      · exact Or.inr (by rw [dm_cv_cat]; exact h4)
  · rcases key k w hk with ⟨rfl, rfl⟩ | ⟨hki, hk1, hk⟩
    · exact h2
    · exact hg.2 k w hk hw
theorem dm_K1 {D : va_G} {s : State} {cA : ClassId} {ty : FieldType} (h : va_K D dm_cl [] s) (ha : ArrOfT s cA ty ∧ va_RA s cA ty) : va_K D dm_cl [(cA, ty)] s := by
  refine ⟨h.1, fun k q hq => ?_⟩
  cases k with
  | zero => cases hq; exact ha
  | succ k => simp at hq
theorem dm_in_vp {i : Int32} {n : Nat} (h : dm_in i n = true) : vp_in i n := by
  simp only [dm_in, Bool.not_eq_true', Bool.or_eq_false_iff, decide_eq_false_iff_not] at h
  exact fun q => q.elim h.1 h.2
theorem dm_fit_ok {n : Nat} {t : FieldType} {v : Value} (h : dm_fit n t v = true) (ad : Nat → Nat) (b : Nat) : narrow t (dm_cv ad b v) = dm_cv ad b v ∧ fits t (dm_cv ad b v) = true ∧ ∀ k, v = .ref k → k < n := by
  cases t <;> cases v <;> first | (simp [dm_fit] at h; done) | (refine ⟨rfl, rfl, fun k hk => ?_⟩; cases hk; first | done | (simpa [dm_fit] using h))
def dm_kz (kd : Nat × Nat) : Nat := if kd.1 = 0 then dm_nf kd.2 else kd.2
def dm_sz (K : List (Nat × Nat)) : Nat := (K.map dm_kz).sum
/-- what stays of the values when a cell comes -/
theorem dm_cv_ext {n b : Nat} {ad ad' : Nat → Nat} (h : ∀ k, k < n → ad' k = ad k) {v : Value} (hv : dm_okv n v = true) : dm_cv ad' b v = dm_cv ad b v := by
  cases v <;> first | rfl | (simp only [dm_okv, decide_eq_true_eq] at hv; show Value.ref _ = Value.ref _; rw [h _ hv])
theorem dm_okl_st {n b : Nat} {ad ad' : Nat → Nat} (h : ∀ k, k < n → ad' k = ad k) {ls : dm_L} {st : List Value} (hv : dm_okl n ls st = true) : st.map (dm_cv ad' b) = st.map (dm_cv ad b) := by
  simp only [dm_okl, Bool.and_eq_true, List.all_eq_true] at hv
  exact List.map_congr_left fun v hm => dm_cv_ext h (hv.1 v hm)
theorem dm_okl_lh {n b : Nat} {ad ad' : Nat → Nat} (h : ∀ k, k < n → ad' k = ad k) {ls : dm_L} {st : List Value} (hv : dm_okl n ls st = true) {arr : Array Slot} {N : Nat} (hl : dm_lh arr N (dm_cv ad b) ls) : dm_lh arr N (dm_cv ad' b) ls := by
  simp only [dm_okl, Bool.and_eq_true, List.all_eq_true] at hv
  refine ⟨hl.1, hl.2.1, fun k v hk => ?_⟩
  have h1 := hv.2 _ (List.mem_of_getElem? hk)
  rw [dm_cv_ext h h1]
  exact hl.2.2 k v hk
