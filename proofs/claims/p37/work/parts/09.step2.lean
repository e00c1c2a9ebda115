/-! cells that come, calls, and the soundness of a run -/
theorem dm_e_congr {f f' : Value → Value} {cA : ClassId} {kd : Nat × Nat} {g g' : Nat → Value} (h1 : ∀ j, f (g j) = f' (g' j)) (h2 : ∀ j, dm_i (g j) = dm_i (g' j)) : dm_e f cA kd g = dm_e f' cA kd g' := by
  obtain ⟨t, n⟩ := kd
  rcases t with _ | _ | _ | t
  · show Sum.inr _ = Sum.inr _
    rw [show (fun j => f (g j)) = (fun j => f' (g' j)) from funext h1]
  · show Sum.inl _ = Sum.inl _
    rw [show (fun j => dm_i (g j)) = (fun j => dm_i (g' j)) from funext h2]
  · show Sum.inl _ = Sum.inl _
    rw [show (fun j => dm_i (g j)) = (fun j => dm_i (g' j)) from funext h2]
  · show Sum.inl _ = Sum.inl _
    rw [show (fun j => dm_r (f (g j))) = (fun j => dm_r (f' (g' j))) from funext fun j => by rw [h1 j]]
theorem dm_w_push {n q b : Nat} {ad ad' : Nat → Nat} {ca ca' : Nat → ClassId} {cA : ClassId} {h : dm_H} {kd : Nat × Nat} {g : Nat → Value} (hn : h.1.length = n) (had : ∀ k, k < n → ad' k = ad k) (hq : ad' n = q) (hca : ∀ k, k < n → ca' k = ca k) (hcq : ca' n = cA)
    (hsc : ∀ k j k' : Nat, k < h.1.length → h.2 k j = .ref k' → k' < h.1.length) (hg : ∀ j k', g j ≠ .ref k') :
    dm_w (dm_cv ad b) ad ca h ++ [(q, dm_e (dm_cv ad b) cA kd g)] = dm_w (dm_cv ad' b) ad' ca' (h.1 ++ [kd], fun a j => if a = n then g j else h.2 a j) := by
  subst hn
  refine List.ext_getElem? fun k => ?_
  rcases Nat.lt_trichotomy k h.1.length with hk | hk | hk
  · obtain ⟨kd', hk'⟩ : ∃ kd', h.1[k]? = some kd' := ⟨_, List.getElem?_eq_getElem hk⟩
    rw [List.getElem?_append_left (by rw [dm_w_len]; exact hk), dm_w_get hk', dm_w_get (h := (h.1 ++ [kd], _)) (k := k) (kd := kd') (by show (h.1 ++ [kd])[k]? = _; rw [List.getElem?_append_left hk]; exact hk')]
    rw [had k hk, hca k hk]
    have hne : k ≠ h.1.length := by omega
    simp only [hne, if_false]
    rw [dm_e_congr (f := dm_cv ad b) (f' := dm_cv ad' b) (g := h.2 k) (g' := fun j => h.2 k j) (fun j => (dm_cv_ext had (by
      cases hv : h.2 k j <;> first | rfl | (simp only [dm_okv, decide_eq_true_eq]; exact hsc k j _ hk hv))).symm) (fun j => rfl)]
  · subst hk
    rw [List.getElem?_append_right (by rw [dm_w_len]; exact Nat.le_refl _), dm_w_len, Nat.sub_self, dm_w_get (h := (h.1 ++ [kd], _)) (k := h.1.length) (kd := kd) (by show (h.1 ++ [kd])[_]? = _; rw [List.getElem?_append_right (Nat.le_refl _), Nat.sub_self]; rfl)]
    rw [hq, hcq]
    simp only [if_true]
    rw [dm_e_congr (f := dm_cv ad b) (f' := dm_cv ad' b) (g := g) (g' := fun j => g j) (fun j => by
      cases hv : g j <;> first | rfl | exact absurd hv (hg j _)) (fun j => rfl)]
    rfl
  · rw [List.getElem?_eq_none (by rw [List.length_append, dm_w_len]; simp only [List.length_cons, List.length_nil]; omega), List.getElem?_eq_none (by rw [dm_w_len]; simp only [List.length_append, List.length_cons, List.length_nil]; omega)]
theorem dm_cv_def (ad : Nat → Nat) (b : Nat) (t : FieldType) : dm_cv ad b (defaultValue t) = defaultValue t := by cases t <;> rfl
theorem dm_def_ref (t : FieldType) (k : Nat) : defaultValue t ≠ .ref k := by cases t <;> (intro h; cases h)
theorem dm_al_inv {ls : dm_L} {st : List Value} {h : dm_H} {kd : Nat × Nat} {pc : Nat} {g : Nat → Value} {S' : dm_S} (hs : dm_al ls st h kd pc g = some (.inl S')) : dm_okl h.1.length ls st = true ∧ S' = (pc, ls, .ref h.1.length :: st, (h.1 ++ [kd], fun a b => if a = h.1.length then g b else h.2 a b)) := by
  unfold dm_al at hs
  split at hs
  · next hc => exact ⟨hc, dm_nx_inv hs⟩
  · cases hs
theorem dm_TN {w : Jvm.Cond} (h : w ∈ dm_T ∨ w ∈ dm_N) (hn : dm_isN w = false) : w ∈ dm_T := by
  rcases h with h | h
  · exact h
  · have := (List.mem_filter.mp h).2
    rw [hn] at this
    cases this
theorem dm_NT {w : Jvm.Cond} (h : w ∈ dm_T ∨ w ∈ dm_N) (hn : goodWord w = false) : w ∈ dm_N := by
  rcases h with h | h
  · have := dm_T_good h
    rw [hn] at this
    cases this
  · exact h
theorem dm_W.moved {D : va_G} {A : Nat → Prop} {b : Nat} {ad : Nat → Nat} {ca : Nat → ClassId} {h : dm_H} {u U : State} {H : Heap} (hvm : u.vm.Alike U.vm) (hW : dm_W D A b ad ca h u H) : dm_W D A b ad ca h U H :=
  ⟨hW.1, hW.2.1, fun k kd hk h0 => ⟨arrOfT_moved hvm (hW.2.2.1 k kd hk h0).1, (hW.2.2.1 k kd hk h0).2.moved hvm⟩, hW.2.2.2⟩
theorem dm_cat_sum : ∀ (l : List Value), (l.map fun v => v.category).sum ≤ 2 * l.length
  | [] => Nat.le_refl _
  | v :: l => by
    have h1 := dm_cat_sum l
    simp only [List.map_cons, List.sum_cons, List.length_cons]
    rcases lv_cat v with h | h <;> omega
theorem dm_objw : Cond.code Lib.objectInit ⟨#[0xb1]⟩ 1 none ∈ dm_T := dm_cw_T (y := 129) (by decide +kernel)
section DMA
variable {D : va_G} {p : Program} {l : Launch} {e : Env} {R : Room} {s : State} {mm : MethodId} {args : Array Value} {below : List Frame} {meth : Method} {c : Code} {Q : State → Prop} {A : Nat → Prop} {b m : Nat} {ad : Nat → Nat} {ca : Nat → ClassId} {cells slots : Nat}
variable {scr : dm_Sc} {pc : Nat} {ls : dm_L} {st : List Value} {h : dm_H} {S' : dm_S}
theorem dm_alloc {H1 : Heap} {locs1 : List Loc} {arr : Array Slot} {kd : Nat × Nat} {g : Nat → Value} {q : Nat} {cA : ClassId} (hok : dm_okl h.1.length ls st = true) (hl : dm_lh arr (mX m) (dm_cv ad b) ls) (hg : dm_lg m ls) (hW3 : ∀ (k : Nat) (kd : Nat × Nat), h.1[k]? = some kd → kd.1 ≠ 0 → ArrOfT s (ca k) (dm_aty kd.1) ∧ va_RA s (ca k) (dm_aty kd.1)) (hW4 : ∀ k j k' : Nat, k < h.1.length → h.2 k j = .ref k' → k' < h.1.length)
    (hk : kd.1 ≠ 0 → ArrOfT s cA (dm_aty kd.1) ∧ va_RA s cA (dm_aty kd.1)) (hgs : ∀ j k', g j ≠ .ref k') (p1 : va_P D dm_cl (dm_w (dm_cv ad b) ad ca h ++ [(q, dm_e (dm_cv ad b) cA kd g)]) H1) (p2 : va_D A (dm_w (dm_cv ad b) ad ca h ++ [(q, dm_e (dm_cv ad b) cA kd g)])) (p3 : va_S A s.heap H1 locs1)
    (kk : ∀ (ad' : Nat → Nat) (ca' : Nat → ClassId), (∀ k, k < h.1.length → ad' k = ad k) → dm_go D p l e R s mm args below meth c Q A b m ad' ca' cells slots (pc, ls, .ref h.1.length :: st, (h.1 ++ [kd], fun a b => if a = h.1.length then g b else h.2 a b))) :
    W p l e R s mm args below meth c H1 locs1 cells slots Q (F0 mm pc arr (.ref q :: st.map (dm_cv ad b))) := by
  obtain ⟨ad', had, hq⟩ : ∃ ad' : Nat → Nat, (∀ k, k < h.1.length → ad' k = ad k) ∧ ad' h.1.length = q := ⟨fun k => if k = h.1.length then q else ad k, fun k hk => if_neg (Nat.ne_of_lt hk), if_pos rfl⟩
  obtain ⟨ca', hca, hcq⟩ : ∃ ca' : Nat → ClassId, (∀ k, k < h.1.length → ca' k = ca k) ∧ ca' h.1.length = cA := ⟨fun k => if k = h.1.length then cA else ca k, fun k hk => if_neg (Nat.ne_of_lt hk), if_pos rfl⟩
  rw [dm_w_push rfl had hq hca hcq hW4 hgs] at p1 p2
  have k1 := kk ad' ca' had H1 locs1 arr (dm_okl_lh had hok hl) hg ⟨p1, p2, fun k kd' hk' h0 => ?_, fun k j k' hk' he => ?_⟩ p3
  · have e1 : (Value.ref h.1.length :: st).map (dm_cv ad' b) = .ref q :: st.map (dm_cv ad b) := by
      rw [List.map_cons, dm_okl_st had hok]
      show Value.ref (ad' _) :: _ = _
      rw [hq]
    dsimp only at k1
    rw [e1] at k1
    exact k1
  · have hk' : (h.1 ++ [kd])[k]? = some kd' := hk'
    rcases Nat.lt_trichotomy k h.1.length with h1 | h1 | h1
    · rw [List.getElem?_append_left h1] at hk'
      rw [hca k h1]
      exact hW3 k kd' hk' h0
    · subst h1
      rw [List.getElem?_append_right (Nat.le_refl _), Nat.sub_self] at hk'
      cases hk'
      rw [hcq]
      exact hk h0
    · rw [List.getElem?_eq_none (by simp only [List.length_append, List.length_cons, List.length_nil]; omega)] at hk'
      cases hk'
  · simp only [List.length_append, List.length_cons, List.length_nil] at hk' ⊢
    dsimp only at he
    by_cases h1 : k = h.1.length
    · rw [if_pos h1] at he
      exact absurd he (hgs j k')
    · rw [if_neg h1] at he
      have := hW4 k j k' (by omega) he
      omega
theorem dm_a_new {i len : Nat} (E : dm_E D p s mm args meth c m) (hA : ∀ q, s.heap.size ≤ q → A q) (hd : decode (mB m) pc = .ok (.new i, len)) (hn : dm_len (.new i) = 0 ∨ dm_len (.new i) = len) (hs : dm_x scr m (.new i) pc ls st h = some (.inl S'))
    (kk : ∀ kd, S'.2.2.2.1 = h.1 ++ [kd] → cells + 1 ≤ R.cells ∧ slots + dm_kz kd ≤ R.slots ∧ ∀ (ad' : Nat → Nat) (ca' : Nat → ClassId), (∀ k, k < h.1.length → ad' k = ad k) → dm_go D p l e R s mm args below meth c Q A b m ad' ca' (cells + 1) (slots + dm_kz kd) S') :
    dm_go D p l e R s mm args below meth c Q A b m ad ca cells slots (pc, ls, st, h) := by
  intro H locs arr hl hg hW hS
  obtain ⟨hx, hb, hml, ho, hts, hini, hK, hN, hAO⟩ := id E
  obtain rfl : 3 = len := hn.resolve_left (by simp [dm_len])
  simp only [dm_x] at hs
  split at hs
  · next ci hci =>
    obtain ⟨hok, rfl⟩ := dm_al_inv hs
    obtain ⟨q, hq, w1, w2, w3⟩ := dm_okN hci
    obtain ⟨q1, q2, q3⟩ := q
    obtain ⟨o1, o2, o3, o4, o5⟩ := dm_okK hq
    obtain ⟨c1, c2, k1⟩ := kk (0, ci) rfl
    have hz : dm_kz (0, ci) = q3 := by simp [dm_kz, dm_nf, hq]
    rw [hz] at c2 k1
    refine va_new hx hb hts (fun w h9 => List.mem_cons_of_mem _ (o1 w h9)) (dm_tyf ci) o2 ho (hts _ (List.mem_cons_of_mem _ w1)) (hts _ (List.mem_cons_of_mem _ w2)) (hts _ (List.mem_cons_of_mem _ w3)) hK hW.1 hW.2.1 hS hA hq (fs := (List.range (dm_nf ci)).map (fun j => dm_cv ad b (defaultValue (dm_tyf ci j)))) (fun j hj => ?_) c1 c2 hd (fun q H1 p1 p2 p3 => ?_)
    · unfold vp_V
      rw [List.getD_eq_getElem?_getD, List.getElem?_map, List.getElem?_range (by unfold dm_nf; rw [hq]; exact hj)]
      show _ = dm_cv ad b _
      rw [dm_cv_def]
    · exact dm_alloc (kd := (0, ci)) (cA := ca 0) (g := fun j => defaultValue (dm_tyf ci j)) hok hl hg hW.2.2.1 hW.2.2.2 (fun z => absurd rfl z) (fun j k' => dm_def_ref _ k') p1 p2 p3 k1
  · cases hs
theorem dm_a_newarray {t : ArrayType} {len : Nat} (E : dm_E D p s mm args meth c m) (hA : ∀ q, s.heap.size ≤ q → A q) (hd : decode (mB m) pc = .ok (.newarray t, len)) (hn : dm_len (.newarray t) = 0 ∨ dm_len (.newarray t) = len) (hs : dm_x scr m (.newarray t) pc ls st h = some (.inl S'))
    (kk : ∀ kd, S'.2.2.2.1 = h.1 ++ [kd] → cells + 1 ≤ R.cells ∧ slots + dm_kz kd ≤ R.slots ∧ ∀ (ad' : Nat → Nat) (ca' : Nat → ClassId), (∀ k, k < h.1.length → ad' k = ad k) → dm_go D p l e R s mm args below meth c Q A b m ad' ca' (cells + 1) (slots + dm_kz kd) S') :
    dm_go D p l e R s mm args below meth c Q A b m ad ca cells slots (pc, ls, st, h) := by
  intro H locs arr hl hg hW hS
  obtain ⟨hx, hb, hml, ho, hts, hini, hK, hN, hAO⟩ := id E
  obtain rfl : 2 = len := hn.resolve_left (by simp [dm_len])
  simp only [dm_x] at hs
  split at hs
  · next n r =>
    split at hs
    · cases hs
    · next hc =>
      simp only [Bool.or_eq_true, decide_eq_true_eq, not_or] at hc
      split at hs
      · obtain ⟨hok, rfl⟩ := dm_al_inv hs
        obtain ⟨c1, c2, k1⟩ := kk (1, n.toNatClampNeg) rfl
        exact va_newa (atype := .int) (ty := .int) (a0 := (n.toNatClampNeg, .inl (fun _ => 0))) hx hb (hts _ (List.mem_cons_of_mem _ (dm_has_T dm_okA.1))) rfl hK hW.1 hW.2.1 hS hA (fun cA => rfl) hc.1 rfl (by show n.toNatClampNeg * 4 ≤ 536870912; omega) c1 c2 hd (fun q cA H1 hK1 p1 p2 p3 =>
          dm_alloc (kd := (1, n.toNatClampNeg)) (cA := cA) (g := fun _ => .int 0) hok hl hg hW.2.2.1 hW.2.2.2 (fun _ => hK1.2 0 _ rfl) (fun j k' z => by cases z) p1 p2 p3 k1)
      · cases hs
  · cases hs
theorem dm_a_anewarray {i len : Nat} (E : dm_E D p s mm args meth c m) (hA : ∀ q, s.heap.size ≤ q → A q) (hd : decode (mB m) pc = .ok (.anewarray i, len)) (hn : dm_len (.anewarray i) = 0 ∨ dm_len (.anewarray i) = len) (hs : dm_x scr m (.anewarray i) pc ls st h = some (.inl S'))
    (kk : ∀ kd, S'.2.2.2.1 = h.1 ++ [kd] → cells + 1 ≤ R.cells ∧ slots + dm_kz kd ≤ R.slots ∧ ∀ (ad' : Nat → Nat) (ca' : Nat → ClassId), (∀ k, k < h.1.length → ad' k = ad k) → dm_go D p l e R s mm args below meth c Q A b m ad' ca' (cells + 1) (slots + dm_kz kd) S') :
    dm_go D p l e R s mm args below meth c Q A b m ad ca cells slots (pc, ls, st, h) := by
  intro H locs arr hl hg hW hS
  obtain ⟨hx, hb, hml, ho, hts, hini, hK, hN, hAO⟩ := id E
  obtain rfl : 3 = len := hn.resolve_left (by simp [dm_len])
  simp only [dm_x] at hs
  split at hs
  · next n r =>
    split at hs
    · cases hs
    · next hc =>
      simp only [Bool.or_eq_true, decide_eq_true_eq, not_or] at hc
      split at hs
      · next hci =>
        obtain ⟨hok, rfl⟩ := dm_al_inv hs
        obtain ⟨q, hq, w1, w2, w3⟩ := dm_okN hci
        obtain rfl : (RX7, TX7, 7) = q := Option.some.inj hq
        obtain ⟨c1, c2, k1⟩ := kk (3, n.toNatClampNeg) rfl
        exact va_newq (C := "BlindGuides$State") hx hb ho (hts _ (List.mem_cons_of_mem _ w1)) hAO hK hW.1 hW.2.1 hS hA hc.1 rfl (by omega) c1 c2 hd (fun q cA H1 hK1 p1 p2 p3 =>
          dm_alloc (kd := (3, n.toNatClampNeg)) (cA := cA) (g := fun _ => .null) hok hl hg hW.2.2.1 hW.2.2.2 (fun _ => hK1.2 0 _ rfl) (fun j k' z => by cases z) p1 p2 p3 k1)
      · cases hs
  · cases hs
theorem dm_a_obj {i : Nat} (E : dm_E D p s mm args meth c m) (hRf : mF m ≤ R.frames) (hRl : mL m ≤ R.locals) (hd : decode (mB m) pc = .ok (.invokespecial i, 3)) {y a : Nat} {r : List Value} (hM : rM (mO m) i = some (y, 7)) (h1 : 1 ≤ mF m) (h2 : 12 + 2 * r.length ≤ mL m)
    (kk : dm_go D p l e R s mm args below meth c Q A b m ad ca cells slots (pc + 3, ls, r, h)) : dm_go D p l e R s mm args below meth c Q A b m ad ca cells slots (pc, ls, .ref a :: r, h) := by
  intro H locs arr hl hg hW hS
  obtain ⟨hx, hb, hml, ho, hts, hini, hK, hN, hAO⟩ := id E
  obtain ⟨hw, -⟩ := dm_okM hM
  have hc := dm_cat_sum (r.map (dm_cv ad b))
  rw [List.length_map] at hc
  refine W.objInit hx hb ho (hts _ (List.mem_cons_of_mem _ (dm_TN (hw (.methodLink (dm_ow.getD (mO m) "") i Lib.objectInit) (by simp [dm_wM])) rfl))) (hts _ (List.mem_cons_of_mem _ (dm_TN (hw (.instanceMethod Lib.objectInit) (by simp [dm_wM])) rfl))) (hts _ (List.mem_cons_of_mem _ dm_objw)) (g := F0 mm pc arr ((Value.ref a :: r).map (dm_cv ad b))) rfl (by rw [hml]; exact hl.1) rfl hd (by omega) (by
    have : (F0 mm pc arr ((Value.ref a :: r).map (dm_cv ad b))).monitorRoom = 0 := rfl
    rw [this]
    omega) (kk H locs arr hl hg hW hS)
theorem dm_a_mm {i : Nat} (E : dm_E D p s mm args meth c m) (hRf : mF m ≤ R.frames) (hRl : mL m ≤ R.locals) (hc : cells ≤ R.cells) (hs : slots ≤ R.slots) (hd : decode (mB m) pc = .ok (.invokestatic i, 3)) {y kd : Nat} {a0 b0 : Int32} {r : List Value} (hM : rM (mO m) i = some (y, kd)) (h8 : kd = 8 ∨ kd = 9) (h1 : 1 ≤ mF m) (h2 : 13 + 2 * r.length ≤ mL m)
    (kk : dm_go D p l e R s mm args below meth c Q A b m ad ca cells slots (pc + 3, ls, .int (if kd = 8 then (if a0 < b0 then b0 else a0) else (if b0 < a0 then b0 else a0)) :: r, h)) : dm_go D p l e R s mm args below meth c Q A b m ad ca cells slots (pc, ls, .int b0 :: .int a0 :: r, h) := by
  intro H locs arr hl hg hW hS
  obtain ⟨hx, hb, hml, ho, hts, hini, hK, hN, hAO⟩ := id E
  obtain ⟨hw, hck⟩ := dm_okM hM
  have hcs := dm_cat_sum (r.map (dm_cv ad b))
  rw [List.length_map] at hcs
  simp only [dm_ckm, Bool.or_eq_true, Bool.and_eq_true, bne_iff_ne, ne_eq, beq_iff_eq] at hck
  have kk := kk H locs arr hl hg hW hS
  rcases h8 with rfl | rfl
  · obtain ⟨⟨⟨-, hy⟩, -⟩, hcw⟩ := hck.resolve_left (by decide)
    have hy : y = dm_max := hy.resolve_left (fun z => z rfl)
    subst hy
    have w1 := hts _ (List.mem_cons_of_mem _ (dm_TN (hw (.methodLink (dm_ow.getD (mO m) "") i (mY dm_max)) (by simp [dm_wM])) rfl))
    have w2 := hts _ (List.mem_cons_of_mem _ (dm_TN (hw (.static (mY dm_max)) (by simp [dm_wM])) rfl))
    have w3 := hts _ (List.mem_cons_of_mem _ (dm_TN (hw (.initialized (mY dm_max).cls) (by simp [dm_wM])) rfl))
    have w4 := hts _ (List.mem_cons_of_mem _ (dm_cw_T hcw))
    exact va_mmax hx hb (by rw [hml]; exact hl.1.symm) ho w1 w2 w3 w4 (by omega) (by omega) hc hs hd kk
  · obtain ⟨⟨-, hy⟩, hcw⟩ := hck.resolve_left (by decide)
    have hy : y = dm_min := hy.resolve_left (fun z => z rfl)
    subst hy
    have w1 := hts _ (List.mem_cons_of_mem _ (dm_TN (hw (.methodLink (dm_ow.getD (mO m) "") i (mY dm_min)) (by simp [dm_wM])) rfl))
    have w2 := hts _ (List.mem_cons_of_mem _ (dm_TN (hw (.static (mY dm_min)) (by simp [dm_wM])) rfl))
    have w3 := hts _ (List.mem_cons_of_mem _ (dm_TN (hw (.initialized (mY dm_min).cls) (by simp [dm_wM])) rfl))
    have w4 := hts _ (List.mem_cons_of_mem _ (dm_cw_T hcw))
    exact va_mmin hx hb (by rw [hml]; exact hl.1.symm) ho w1 w2 w3 w4 (by omega) (by omega) hc hs hd kk

theorem dm_step {k0 z0 : Nat} {S : dm_S} (E : dm_E D p s mm args meth c m) (X : dm_X scr b s A) (hA : ∀ q, s.heap.size ≤ q → A q) (hRf : mF m ≤ R.frames) (hRl : mL m ≤ R.locals) (hs : dm_st scr m S = some (.inl S')) (hk0 : k0 ≤ S.2.2.2.1.length) (hz0 : z0 ≤ dm_sz S.2.2.2.1) (hRc : S'.2.2.2.1.length - k0 ≤ R.cells) (hRs : dm_sz S'.2.2.2.1 - z0 ≤ R.slots)
    (kk : ∀ (ad' : Nat → Nat) (ca' : Nat → ClassId), (∀ k, k < S.2.2.2.1.length → ad' k = ad k) → (S'.2.2.2.1 = S.2.2.2.1 → ad' = ad) → dm_go D p l e R s mm args below meth c Q A b m ad' ca' (S'.2.2.2.1.length - k0) (dm_sz S'.2.2.2.1 - z0) S') :
    dm_go D p l e R s mm args below meth c Q A b m ad ca (S.2.2.2.1.length - k0) (dm_sz S.2.2.2.1 - z0) S := by
  obtain ⟨ins, len, hd, hn, hx⟩ := dm_st_inv hs
  obtain ⟨pc, ls, st, h⟩ := S
  dsimp only at hd hx hk0 hz0 kk ⊢
  have kn : S'.2.2.2.1 = h.1 → dm_go D p l e R s mm args below meth c Q A b m ad ca (h.1.length - k0) (dm_sz h.1 - z0) S' := fun e1 => by
    have k1 := kk ad ca (fun _ _ => rfl) (fun _ => rfl)
    rw [e1] at k1
    exact k1
  have ka : ∀ kd, S'.2.2.2.1 = h.1 ++ [kd] → h.1.length - k0 + 1 ≤ R.cells ∧ dm_sz h.1 - z0 + dm_kz kd ≤ R.slots ∧ ∀ (ad' : Nat → Nat) (ca' : Nat → ClassId), (∀ k, k < h.1.length → ad' k = ad k) → dm_go D p l e R s mm args below meth c Q A b m ad' ca' (h.1.length - k0 + 1) (dm_sz h.1 - z0 + dm_kz kd) S' := by
    intro kd e1
    have e2 : S'.2.2.2.1.length - k0 = h.1.length - k0 + 1 := by rw [e1]; simp only [List.length_append, List.length_cons, List.length_nil]; omega
    have e3 : dm_sz S'.2.2.2.1 - z0 = dm_sz h.1 - z0 + dm_kz kd := by rw [e1, dm_sz_app]; omega
    rw [e2, e3] at kk
    rw [e2] at hRc
    rw [e3] at hRs
    exact ⟨hRc, hRs, fun ad' ca' h1 => kk ad' ca' h1 (fun z => by rw [e1] at z; have := congrArg List.length z; simp only [List.length_append, List.length_cons, List.length_nil] at this; omega)⟩
  cases ins with
  | iconst _ => exact dm_n_iconst E hd hn hx kn
  | bipush _ => exact dm_n_bipush E hd hn hx kn
  | sipush _ => exact dm_n_sipush E hd hn hx kn
  | ldc _ => exact dm_n_ldc E hd hn hx kn
  | ldc_w _ => exact dm_n_ldc_w E hd hn hx kn
  | ldc2_w _ => exact dm_n_ldc2_w E hd hn hx kn
  | lconst _ => exact dm_n_lconst E hd hn hx kn
  | aconst_null  => exact dm_n_aconst_null E hd hn hx kn
  | iload _ => exact dm_n_iload E hd hn hx kn
  | lload _ => exact dm_n_lload E hd hn hx kn
  | iload_n _ => exact dm_n_iload_n E hd hn hx kn
  | lload_n _ => exact dm_n_lload_n E hd hn hx kn
  | aload _ => exact dm_n_aload E hd hn hx kn
  | aload_n _ => exact dm_n_aload_n E hd hn hx kn
  | istore _ => exact dm_n_istore E hd hn hx kn
  | istore_n _ => exact dm_n_istore_n E hd hn hx kn
  | astore _ => exact dm_n_astore E hd hn hx kn
  | astore_n _ => exact dm_n_astore_n E hd hn hx kn
  | lstore _ => exact dm_n_lstore E hd hn hx kn
  | lstore_n _ => exact dm_n_lstore_n E hd hn hx kn
  | iinc _ _ => exact dm_n_iinc E hd hn hx kn
  | iadd  => exact dm_n_iadd E hd hn hx kn
  | isub  => exact dm_n_isub E hd hn hx kn
  | imul  => exact dm_n_imul E hd hn hx kn
  | iand  => exact dm_n_iand E hd hn hx kn
  | ior  => exact dm_n_ior E hd hn hx kn
  | ixor  => exact dm_n_ixor E hd hn hx kn
  | ishl  => exact dm_n_ishl E hd hn hx kn
  | ishr  => exact dm_n_ishr E hd hn hx kn
  | iushr  => exact dm_n_iushr E hd hn hx kn
  | idiv  => exact dm_n_idiv E hd hn hx kn
  | irem  => exact dm_n_irem E hd hn hx kn
  | ladd  => exact dm_n_ladd E hd hn hx kn
  | lmul  => exact dm_n_lmul E hd hn hx kn
  | land  => exact dm_n_land E hd hn hx kn
  | ldiv  => exact dm_n_ldiv E hd hn hx kn
  | lrem  => exact dm_n_lrem E hd hn hx kn
  | lcmp  => exact dm_n_lcmp E hd hn hx kn
  | i2l  => exact dm_n_i2l E hd hn hx kn
  | l2i  => exact dm_n_l2i E hd hn hx kn
  | ifnull _ => exact dm_n_ifnull E hd hn hx kn
  | dup  => exact dm_n_dup E hd hn hx kn
  | dup2  => exact dm_n_dup2 E hd hn hx kn
  | pop  => exact dm_n_pop E hd hn hx kn
  | goto _ => exact dm_n_goto E hd hn hx kn
  | tableswitch _ _ _ _ => exact dm_n_tableswitch E hd hn hx kn
  | lookupswitch _ _ => exact dm_n_lookupswitch E hd hn hx kn
  | getfield _ => exact dm_n_getfield E hd hn hx kn
  | putfield _ => exact dm_n_putfield E hd hn hx kn
  | iastore  => exact dm_n_iastore E hd hn hx kn
  | bastore  => exact dm_n_bastore E hd hn hx kn
  | aaload  => exact dm_n_aaload E hd hn hx kn
  | aastore  => exact dm_n_aastore E hd hn hx kn
  | if_icmp _ _ => exact dm_n_icmp E hd hn hx kn
  | ifCond _ _ => exact dm_n_ifc E hd hn hx kn
  | iaload => exact dm_n_iaload E X hd hn hx kn
  | baload => exact dm_n_baload E X hd hn hx kn
  | arraylength => exact dm_n_arraylength E X hd hn hx kn
  | new _ => exact dm_a_new E hA hd hn hx ka
  | newarray _ => exact dm_a_newarray E hA hd hn hx ka
  | anewarray _ => exact dm_a_anewarray E hA hd hn hx ka
  | invokevirtual i =>
    rcases dm_iv_inv hx with ⟨y, -, hk, -⟩ | ⟨y, kd, -, hk, h8, -⟩ | ⟨y, kd, as, r, hc, z⟩
    · exact absurd hk (by decide)
    · rcases h8 with rfl | rfl <;> exact absurd hk (by decide)
    · cases z
  | invokestatic i =>
    obtain rfl : 3 = len := hn.resolve_left (by simp [dm_len])
    rcases dm_iv_inv hx with ⟨y, -, hk, -⟩ | ⟨y, kd, hM, hk, h8, a0, b0, r, rfl, h1, h2, z⟩ | ⟨y, kd, as, r, hc, z⟩
    · exact absurd hk (by decide)
    · cases z
      exact dm_a_mm E hRf hRl hRc hRs hd hM h8 h1 h2 (kn rfl)
    · cases z
  | invokespecial i =>
    obtain rfl : 3 = len := hn.resolve_left (by simp [dm_len])
    rcases dm_iv_inv hx with ⟨y, hM, hk, a, r, rfl, h1, h2, z⟩ | ⟨y, kd, -, hk, h8, -⟩ | ⟨y, kd, as, r, hc, z⟩
    · cases z
      exact dm_a_obj E hRf hRl hd hM h1 h2 (kn rfl)
    · rcases h8 with rfl | rfl <;> exact absurd hk (by decide)
    · cases z
  | ireturn => have := dm_x_R (len := len) hx; simp only [dm_x] at hx; (repeat' split at hx) <;> cases hx
  | areturn => simp only [dm_x] at hx; (repeat' split at hx) <;> cases hx
  | return_ => simp only [dm_x] at hx; (repeat' split at hx) <;> cases hx
  | _ => cases hx
end DMA
