/-! the soundness of runs, by the fuel -/
theorem dm_ia_len : ∀ as : List Value, (dm_ia as).length = (lg_sl as).length
  | [] => rfl
  | v :: as => by
    have h := dm_ia_len as
    unfold dm_ia lg_sl at h ⊢
    rw [List.flatMap_cons, List.flatMap_cons, List.length_append, List.length_append, h]
    by_cases hc : v.category = 2
    · rw [if_pos hc, if_pos hc]; rfl
    · rw [if_neg hc, if_neg hc]; rfl
theorem dm_ia_at : ∀ (as : List Value) (i j : Nat) (v : Value), (dm_ia as)[j]? = some (some v) → (i + j, v) ∈ lv_args i as
  | [], i, j, v, h => by simp [dm_ia] at h
  | a :: as, i, j, v, h => by
    have ih := dm_ia_at as
    unfold dm_ia at h ih
    rw [List.flatMap_cons] at h
    simp only [lv_args]
    by_cases hc : a.category = 2
    · rw [if_pos hc] at h ⊢
      rcases j with _ | _ | j
      · simp only [List.cons_append, List.getElem?_cons_zero, Option.some.injEq] at h
        subst h
        exact List.mem_cons_self
      · simp at h
      · have h1 := ih (i + 2) j v (by simpa using h)
        rw [show i + (j + 1 + 1) = i + 2 + j by omega]
        exact List.mem_cons_of_mem _ h1
    · rw [if_neg hc] at h ⊢
      rcases j with _ | j
      · simp only [List.cons_append, List.getElem?_cons_zero, Option.some.injEq] at h
        subst h
        exact List.mem_cons_self
      · have h1 := ih (i + 1) j v (by simpa using h)
        rw [show i + (j + 1) = i + 1 + j by omega]
        exact List.mem_cons_of_mem _ h1
theorem dm_args_map {f : Value → Value} (hf : ∀ v, (f v).category = v.category) : ∀ (as : List Value) (i : Nat), lv_args i (as.map f) = (lv_args i as).map (fun q => (q.1, f q.2))
  | [], _ => rfl
  | a :: as, i => by
    simp only [List.map_cons, lv_args, hf]
    rw [dm_args_map hf as]
theorem dm_sl_map {f : Value → Value} (hf : ∀ v, (f v).category = v.category) (as : List Value) : (lg_sl (as.map f)).length = (lg_sl as).length := by
  induction as with
  | nil => rfl
  | cons v as ih =>
    unfold lg_sl at ih ⊢
    rw [List.map_cons, List.flatMap_cons, List.flatMap_cons, List.length_append, List.length_append, ih, hf]
    by_cases hc : v.category = 2
    · rw [if_pos hc, if_pos hc]; rfl
    · rw [if_neg hc, if_neg hc]; rfl
theorem dm_in0_at {y : Nat} {as : List Value} {k : Nat} {v : Value} (h : (dm_in0 y as)[k]? = some (some v)) : (k, v) ∈ lv_args 0 as := by
  unfold dm_in0 at h
  rcases Nat.lt_or_ge k (dm_ia as).length with hk | hk
  · rw [List.getElem?_append_left hk] at h
    have := dm_ia_at as 0 k v h
    rwa [Nat.zero_add] at this
  · rw [List.getElem?_append_right hk] at h
    have hm := List.mem_of_getElem? h
    rw [List.mem_replicate] at hm
    cases hm.2
theorem dm_in0_lg {y : Nat} {as : List Value} (h : dm_aok y as = true) : dm_lg y (dm_in0 y as) := by
  simp only [dm_aok, Bool.and_eq_true, decide_eq_true_eq, List.all_eq_true, Bool.or_eq_true, bne_iff_ne, ne_eq, List.contains_iff_mem] at h
  refine ⟨?_, fun k v hk hc => ?_⟩
  · unfold dm_in0
    rw [List.length_append, List.length_replicate, dm_ia_len]
    omega
  · exact (h.2 (k, v) (dm_in0_at hk)).resolve_left (fun z => z hc)
theorem dm_in0_lh {y : Nat} {as : List Value} {ad : Nat → Nat} {b : Nat} (h : dm_aok y as = true) : dm_lh ((lg_sl (as.map (dm_cv ad b)) ++ List.replicate (mX y - (lg_sl (as.map (dm_cv ad b))).length) Slot.unset).toArray) (mX y) (dm_cv ad b) (dm_in0 y as) := by
  have h1 := lv_entry (as.map (dm_cv ad b)) (n := mX y) (by
    rw [dm_sl_map (dm_cv_cat ad b)]
    simp only [dm_aok, Bool.and_eq_true, decide_eq_true_eq] at h
    exact h.1)
  refine ⟨h1.1, h1.2.1, fun k v hk => ?_⟩
  refine h1.2.2 (k, dm_cv ad b v) ?_
  rw [dm_args_map (dm_cv_cat ad b)]
  exact List.mem_map.mpr ⟨(k, v), dm_in0_at hk, rfl⟩
def dm_Snd (n : Nat) : Prop := ∀ {scr : dm_Sc} {m : Nat} {S : dm_S} {r : Option Value} {hF : dm_H}, dm_run scr n m S = some (r, hF) →
  ∀ {D : va_G} {p : Program} {l : Launch} {e : Env} {R : Room} {s : State} {mm : MethodId} {args : Array Value} {below : List Frame} {meth : Method} {c : Code} {Q : State → Prop} {A : Nat → Prop} {b : Nat} {ad : Nat → Nat} {ca : Nat → ClassId} {k0 z0 : Nat},
  dm_E D p s mm args meth c m → dm_X scr b s A → (∀ q, s.heap.size ≤ q → A q) → mF m ≤ R.frames → mL m ≤ R.locals → k0 ≤ S.2.2.2.1.length → z0 ≤ dm_sz S.2.2.2.1 → hF.1.length - k0 ≤ R.cells → dm_sz hF.1 - z0 ≤ R.slots →
  (∀ (ad' : Nat → Nat) (ca' : Nat → ClassId) (pc : Nat) (arr : Array Slot) (H : Heap) (locs : List Loc), dm_rok m pc r → (∀ k, k < S.2.2.2.1.length → ad' k = ad k) → (hF.1 = S.2.2.2.1 → ad' = ad) → dm_W D A b ad' ca' hF s H → va_S A s.heap H locs → W p l e R s mm args below meth c H locs (hF.1.length - k0) (dm_sz hF.1 - z0) Q (F0 mm pc arr (r.map (dm_cv ad' b)).toList)) →
  dm_go D p l e R s mm args below meth c Q A b m ad ca (S.2.2.2.1.length - k0) (dm_sz S.2.2.2.1 - z0) S
theorem dm_met {scr : dm_Sc} {n y : Nat} {as : List Value} {h : dm_H} {r : Option Value} {hF : dm_H} (hn : dm_Snd n) (hr : dm_run scr n y (0, dm_in0 y as, [], h) = some (r, hF)) (ha : dm_aok y as = true) (hp : plainName (mY y).cls = true) (ho : (mY y).cls = dm_own y) (l : Launch) (D : va_G) : dm_Met scr l D y as h r hF := by
  intro b ad ca sz
  refine Met.ofW (cc := mB y) (maxL := mX y) (ret := mR y) hp rfl ?_
  intro p e s mm args below meth c s₁ B hml hv
  obtain ⟨rfl, hsz, hW, hK, hN, hAO, hXX⟩ := hv
  subst hsz
  have E : dm_E D p s mm (as.map (dm_cv ad b)).toArray meth c y := ⟨B.exec, B.bytes, hml, by rw [← ho]; exact findClass_of_methodNamed B.named, atoms_spec (ws := dm_Ts y) B.pre, fun hi => by rw [(name_of_methodNamed B.named B.method).1]; exact hi, hK, hN, hAO⟩
  have hmono := dm_run_mono n hr
  dsimp only at hmono
  have hW' : dm_W D (va_A (dm_w (dm_cv ad b) ad ca h) s.heap.size) b ad ca h s s.heap := ⟨hW.1, hW.2.1.self, hW.2.2.1, hW.2.2.2⟩
  have k1 := hn hr (D := D) (l := l) (e := e) (below := below) (R := dm_rm y h hF) (A := va_A (dm_w (dm_cv ad b) ad ca h) s.heap.size) (b := b) (ad := ad) (ca := ca) (k0 := h.1.length) (z0 := dm_sz h.1)
    (Q := MQ below (dm_Qc D b ad ca h hF r s.heap.size) (as.map (dm_cv ad b)).toArray s (hF.1.length - h.1.length) (dm_sz hF.1 - dm_sz h.1) (va_A (dm_w (dm_cv ad b) ad ca h) s.heap.size)) E (fun L xs z => ⟨(hXX L xs z).1, (hXX L xs z).2.1, fun z2 => by
      rcases z2 with ⟨k, e1, hk⟩ | hq
      · obtain ⟨kd, h6, e2⟩ := dm_w_at hk
        exact (hXX L xs z).2.2 k (List.getElem?_eq_some_iff.mp h6).1 (congrArg Prod.fst e2).symm
      · have := (hXX L xs z).2.1
        omega⟩) (fun q hq => Or.inr hq) (Nat.le_refl _) (Nat.le_refl _) (Nat.le_refl _) (Nat.le_refl _) (Nat.le_refl _) (Nat.le_refl _) ?_
  · have k2 := k1 s.heap [] _ (dm_in0_lh ha) (dm_in0_lg ha) hW' va_S.rf
    dsimp only at k2
    rw [Nat.sub_self, Nat.sub_self] at k2
    rw [lg_entry_eq]
    exact k2
  · intro ad' ca' pc arr H locs hrk had hsame hW1 hS1
    have hq : ∀ (o : Outcome) (t : State), o = .returned (r.map (dm_cv ad' b)) → t.heap = H → s.WarmedH t.vm → dm_Qc D b ad ca h hF r s.heap.size (as.map (dm_cv ad b)).toArray s o t := by
      intro o t ho1 ht hWm
      refine ⟨⟨ad', ca', ho1, had, hsame, ?_⟩, hS1.F ht⟩
      rw [ht]
      exact dm_W.moved hWm.alike hW1
    rcases hrk with ⟨rfl, hR, hd⟩ | ⟨x, t, rfl, hR, hnar, hd⟩ | ⟨x, t, rfl, hR, ht, hd⟩
    · exact W.vret B.exec B.bytes (by rw [B.returns]; exact hR) (fun t ht hWm => hq _ t rfl ht hWm) hS1.2.2 hd B.notSynchronized
    · exact W.zret B.exec B.bytes (by rw [B.returns]; exact hR) hnar (fun t ht hWm => hq _ t rfl ht hWm) hS1.2.2 hd B.notSynchronized
    · exact W.aret B.exec B.bytes (by rw [B.returns]; exact hR) ht (Or.inr ⟨_, rfl⟩) (fun t ht hWm => hq _ t rfl ht hWm) hS1.2.2 hd B.notSynchronized
theorem dm_snd : ∀ n, dm_Snd n := by
  intro n
  induction n with
  | zero => intro scr m S r hF h; simp [dm_run] at h
  | succ n ih =>
    intro scr m S r hF h D p l e R s mm args below meth c Q A b ad ca k0 z0 E X hA hRf hRl hk0 hz0 hRc hRs hret
    have hmono := dm_run_mono (n + 1) h
    simp only [dm_run] at h
    split at h
    · cases h
    · next S' hS =>
      have hm2 := dm_run_mono n h
      obtain ⟨ins, len, -, -, hx⟩ := dm_st_inv hS
      have hK : S'.2.2.2.1 = S.2.2.2.1 ∨ ∃ kd, S'.2.2.2.1 = S.2.2.2.1 ++ [kd] := dm_x_K hx
      have hgrow : S.2.2.2.1.length ≤ S'.2.2.2.1.length ∧ dm_sz S.2.2.2.1 ≤ dm_sz S'.2.2.2.1 := by
        rcases hK with e1 | ⟨kd, e1⟩
        · rw [e1]; exact ⟨Nat.le_refl _, Nat.le_refl _⟩
        · rw [e1, dm_sz_app, List.length_append]; omega
      refine dm_step E X hA hRf hRl hS hk0 hz0 (by omega) (by omega) (fun ad' ca' had hsame => ?_)
      refine ih h E X hA hRf hRl (by omega) (by omega) hRc hRs (fun ad2 ca2 pc arr H locs hrk had2 hsame2 hW hS2 => ?_)
      refine hret ad2 ca2 pc arr H locs hrk (fun k hk => (had2 k (by omega)).trans (had k hk)) (fun z => ?_) hW hS2
      have e1 : S'.2.2.2.1 = S.2.2.2.1 := by
        rcases hK with e1 | ⟨kd, e1⟩
        · exact e1
        · have h5 := hm2.1
          rw [z, e1, List.length_append] at h5
          simp only [List.length_cons, List.length_nil] at h5
          omega
      rw [hsame2 (z.trans e1.symm), hsame e1]
    · next R' hS =>
      cases h
      obtain ⟨ins, len, hd, hn, hx⟩ := dm_st_inv hS
      have h1 : hF = S.2.2.2 ∧ S.2.2.1 = r.toList := dm_x_K hx
      have h2 : decode (mB m) S.1 = .ok (ins, len) → dm_len ins = 0 ∨ dm_len ins = len → dm_rok m S.1 r := dm_x_R (len := len) hx
      obtain ⟨e1, e2⟩ := h1
      subst e1
      intro H locs arr hl hg hW hS2
      have k1 := hret ad ca S.1 arr H locs (h2 hd hn) (fun _ _ => rfl) (fun _ => rfl) hW hS2
      have e3 : S.2.2.1.map (dm_cv ad b) = (r.map (dm_cv ad b)).toList := by
        rw [e2]
        cases r <;> rfl
      rw [e3]
      exact k1
    · next y as pc ls st hh hS =>
      split at h
      · cases h
      · next r' h' hr =>
        split at h
        · next hc =>
          obtain ⟨ins, len, hd, hn, hx⟩ := dm_st_inv hS
          have hKh : hh = S.2.2.2 := dm_x_K hx
          subst hKh
          have hm3 := dm_run_mono n hr
          have hm4 := dm_run_mono n h
          dsimp only at hm3 hm4
          obtain ⟨i, kd, rest, e2, hk⟩ := (dm_x_C hx : ∃ i kd r, (pc, ls, st, S.2.2.2) = (S.1 + 3, S.2.1, r, S.2.2.2) ∧ _)
          have hall : dm_aok y as = true ∧ ∃ o, rM (mO m) o = some (y, kd) ∧ kd ≠ 7 ∧ kd ≠ 8 ∧ kd ≠ 9 := by
            rcases hk with ⟨-, hk⟩ | ⟨-, hk⟩ | ⟨-, hk⟩
            · exact ⟨hk.2.2.2.2.2.2.2.2.2.2.1, i, hk.1, hk.2.2.1, hk.2.2.2.1, hk.2.2.2.2.1⟩
            · exact ⟨hk.2.2.2.2.2.2.2.2.2.2.1, i, hk.1, hk.2.2.1, hk.2.2.2.1, hk.2.2.2.2.1⟩
            · exact ⟨hk.2.2.2.2.2.2.2.2.2.2.1, i, hk.1, hk.2.2.1, hk.2.2.2.1, hk.2.2.2.2.1⟩
          obtain ⟨haok, o, hrM, h7, h8, h9⟩ := hall
          obtain ⟨-, hck⟩ := dm_okM hrM
          simp only [dm_ckm, Bool.or_eq_true, Bool.and_eq_true, bne_iff_ne, ne_eq, beq_iff_eq, decide_eq_true_eq] at hck
          obtain ⟨⟨⟨⟨⟨⟨hmh, hpl⟩, hown⟩, hini0⟩, hmx⟩, hmn⟩, hcw⟩ := hck.resolve_left h7
          have hpl : plainName (mY y).cls = true := hpl.resolve_left (fun z => z.elim h8 h9)
          have hM := dm_met ih hr haok hpl hown l D
          simp only [Bool.or_eq_true, decide_eq_true_eq] at hc
          have hls : ls = S.2.1 := congrArg (fun q : dm_S => q.2.1) e2
          refine dm_call E X hA hRf hRl hS hM hm3.1 hm3.2 hc ⟨by omega, by omega⟩ (fun ad' ca' had hsame => ?_)
          have e3 : S.2.2.2.1.length - k0 + (h'.1.length - S.2.2.2.1.length) = h'.1.length - k0 := by omega
          have e4 : dm_sz S.2.2.2.1 - z0 + (dm_sz h'.1 - dm_sz S.2.2.2.1) = dm_sz h'.1 - z0 := by omega
          rw [e3, e4]
          refine ih h E X hA hRf hRl (by dsimp only; omega) (by dsimp only; omega) hRc hRs (fun ad2 ca2 pc2 arr H locs hrk had2 hsame2 hW hS2 => ?_)
          dsimp only at had2 hsame2
          refine hret ad2 ca2 pc2 arr H locs hrk (fun k hk => (had2 k (by omega)).trans (had k hk)) (fun z => ?_) hW hS2
          obtain ⟨x1, x2⟩ := dm_run_pre n hr
          obtain ⟨x3, x4⟩ := dm_run_pre n h
          dsimp only at x2 x4
          have e5 : h'.1 = S.2.2.2.1 := by
            have h5 : hF.1.length = S.2.2.2.1.length := by rw [z]
            have h6 : x1 = [] := by
              have := congrArg List.length x2
              simp only [List.length_append] at this
              exact List.eq_nil_of_length_eq_zero (by omega)
            rw [x2, h6, List.append_nil]
          rw [hsame2 (z.trans e5.symm), hsame e5]
        · cases h
