/-! contracts of methods out of runs; a run is the machine's own -/
/-- the script in a heap, apart from the world -/
def dm_XH (scr : dm_Sc) (b : Nat) (ad : Nat → Nat) (n : Nat) (U : State) : Prop := ∀ (L : Nat) (xs : Nat → Int32), scr = some (L, xs) → va_X b L xs U U.heap ∧ b < U.heap.size ∧ ∀ k, k < n → ad k ≠ b
def dm_Pc (scr : dm_Sc) (D : va_G) (b : Nat) (ad : Nat → Nat) (ca : Nat → ClassId) (h : dm_H) (sz : Nat) (as : List Value) : Array Value → State → Prop := va_Pc (as.map (dm_cv ad b)) (fun U => U.heap.size = sz ∧ dm_W D (fun _ => True) b ad ca h U U.heap ∧ va_K D dm_cl [] U ∧ (∀ w ∈ dm_N, va_Nw w U) ∧ va_AO "BlindGuides$State" U ∧ dm_XH scr b ad h.1.length U)
def dm_Qc (D : va_G) (b : Nat) (ad : Nat → Nat) (ca : Nat → ClassId) (h hF : dm_H) (r : Option Value) (sz : Nat) : Array Value → State → Outcome → State → Prop := fun _ st oc t =>
  (∃ (ad' : Nat → Nat) (ca' : Nat → ClassId), oc = .returned (r.map (dm_cv ad' b)) ∧ (∀ k, k < h.1.length → ad' k = ad k) ∧ (hF.1 = h.1 → ad' = ad) ∧ dm_W D (va_A (dm_w (dm_cv ad b) ad ca h) sz) b ad' ca' hF t t.heap) ∧ va_F (va_A (dm_w (dm_cv ad b) ad ca h) sz) st t
def dm_rm (y : Nat) (h hF : dm_H) : Room := { frames := mF y, cells := hF.1.length - h.1.length, slots := dm_sz hF.1 - dm_sz h.1, locals := mL y }
/-- the contract of a method for one start and one end -/
def dm_Met (scr : dm_Sc) (l : Launch) (D : va_G) (y : Nat) (as : List Value) (h : dm_H) (r : Option Value) (hF : dm_H) : Prop := ∀ (b : Nat) (ad : Nat → Nat) (ca : Nat → ClassId) (sz : Nat),
  Met l (mY y) (dm_Ts y) (dm_rm y h hF) (dm_Pc scr D b ad ca h sz as) (dm_Qc D b ad ca h hF r sz) (hF.1.length - h.1.length) (dm_sz hF.1 - dm_sz h.1) (va_A (dm_w (dm_cv ad b) ad ca h) sz)
theorem dm_Pc_blind {scr : dm_Sc} {D : va_G} {b : Nat} {ad : Nat → Nat} {ca : Nat → ClassId} {h : dm_H} {sz : Nat} {as : List Value} : FrameBlind (dm_Pc scr D b ad ca h sz as) := by
  intro a U g mk q
  obtain ⟨q1, q2, q3, q4, q5, q6, q7⟩ := q
  exact ⟨q1, q2, dm_W.moved (u := U) (U := U.calling g mk a) (Vm.Alike.refl U.vm) q3, va_K.moved (u := U) (U := U.calling g mk a) (Vm.Alike.refl U.vm) q4, fun w hw => va_Nw.same (dm_N_on hw) (u := U) (U := U.calling g mk a) rfl (q5 w hw), va_AO.moved (u := U) (U := U.calling g mk a) (Vm.Alike.refl U.vm) q6, fun L xs z => ⟨va_X.moved (u := U) (U := U.calling g mk a) (Vm.Alike.refl U.vm) (q7 L xs z).1, (q7 L xs z).2⟩⟩
theorem dm_good {m : Nat} {ws : List Jvm.Cond} (h : ∀ w ∈ ws, w ∈ dm_T) : GoodIn (dm_Ts m) ws := fun w hw => ⟨List.mem_cons_of_mem _ (h w hw), good_of_word (dm_T_good (h w hw))⟩
theorem dm_rk_sum {f : Value → Value} {r : List Value} (h : dm_rk r = true) (hf : ∀ v, (f v).category = v.category := by intro v; exact dm_cv_cat _ _ v) : ((r.map f).map fun v => v.category).sum ≤ 8 := by
  have e : ((r.map f).map fun v => v.category) = r.map fun v => v.category := by
    rw [List.map_map]
    exact List.map_congr_left fun v _ => hf v
  rw [e]
  simp only [dm_rk, Bool.or_eq_true, decide_eq_true_eq] at h
  rcases h with h | h
  · exact Nat.le_trans (dm_cat_sum r) (by omega)
  · exact h
section DMC
variable {D : va_G} {p : Program} {l : Launch} {e : Env} {R : Room} {s : State} {mm : MethodId} {args : Array Value} {below : List Frame} {meth : Method} {c : Code} {Q : State → Prop} {A : Nat → Prop} {b m : Nat} {ad : Nat → Nat} {ca : Nat → ClassId} {cells slots : Nat}
variable {scr : dm_Sc} {pc : Nat} {ls : dm_L} {st : List Value} {h : dm_H} {S' : dm_S}
theorem dm_join {hF : dm_H} {r : Option Value} {H : Heap} {locs : List Loc} {mc ms : Nat} {arr : Array Slot} {st0 rest : List Value} {a : Array Value}
    (hr : va_Run p l e R s mm args below meth c H locs cells slots mc ms (F0 mm pc arr st0) rest (dm_Qc D b ad ca h hF r H.size a) (va_A (dm_w (dm_cv ad b) ad ca h) H.size)) (hS : va_S A s.heap H locs) (hD : va_D A (dm_w (dm_cv ad b) ad ca h)) (hA : ∀ q, s.heap.size ≤ q → A q)
    (kk : ∀ (ad' : Nat → Nat) (ca' : Nat → ClassId) (H1 : Heap) (locs1 : List Loc), (∀ k, k < h.1.length → ad' k = ad k) → (hF.1 = h.1 → ad' = ad) → dm_W D A b ad' ca' hF s H1 → va_S A s.heap H1 locs1 → W p l e R s mm args below meth c H1 locs1 (cells + mc) (slots + ms) Q (F0 mm (pc + 3) arr ((r.map (dm_cv ad' b)).toList ++ rest))) :
    W p l e R s mm args below meth c H locs cells slots Q (F0 mm pc arr st0) := by
  have hF0 : ∀ q, va_A (dm_w (dm_cv ad b) ad ca h) H.size q → A q := by
    rintro q (⟨k, e1, hk⟩ | hq)
    · exact hD.2 k _ hk
    · exact hA q (Nat.le_trans hS.1 hq)
  intro T hT X
  obtain ⟨v, st₀, t, T', L, h0, X', hL, e1, e2, ⟨⟨ad', ca', hv, had, hsame, hW1⟩, hz, hk⟩, st⟩ := hr T hT X
  cases hv
  rw [h0] at hz hk
  have hvm : s.vm.Alike t.vm := by rw [← e2]; exact X'.warmed.alike
  have hW2 : dm_W D A b ad' ca' hF s T'.heap := by
    rw [e1]
    refine dm_W.moved hvm.symm ⟨hW1.1, hW1.2.1.weaken (fun _ q _ z => hF0 q.1 z), hW1.2.2.1, hW1.2.2.2⟩
  obtain ⟨t2, a1, b1⟩ := kk ad' ca' T'.heap (locs ++ L) had hsame hW2
    ⟨Nat.le_trans hS.1 (by rw [e1]; exact hz), fun q h1 h2 => by rw [e1, hk q (Nat.lt_of_lt_of_le h1 hS.1) (fun z => h2 (hF0 q z))]; exact hS.2.1 q h1 h2, fun q hq => by
      rcases List.mem_append.mp hq with h | h
      · exact hS.2.2 q h
      · exact hF0 _ (hL q h)⟩ T' rfl X'
  exact ⟨t2, st t2 a1, b1⟩
theorem dm_call {S : dm_S} {y : Nat} {as : List Value} {S2 : dm_S} {hF : dm_H} {r : Option Value} (E : dm_E D p s mm args meth c m) (X : dm_X scr b s A) (hA : ∀ q, s.heap.size ≤ q → A q) (hRf : mF m ≤ R.frames) (hRl : mL m ≤ R.locals)
    (hs : dm_st scr m S = some (.inr (.inr (y, as, S2)))) (hM : dm_Met (dm_sc scr y) l D y as S.2.2.2 r hF) (hm1 : S.2.2.2.1.length ≤ hF.1.length) (hm2 : dm_sz S.2.2.2.1 ≤ dm_sz hF.1)
    (hok : hF.1 = S.2.2.2.1 ∨ dm_okl S.2.2.2.1.length S2.2.1 S2.2.2.1 = true) (hRc : cells + (hF.1.length - S.2.2.2.1.length) ≤ R.cells ∧ slots + (dm_sz hF.1 - dm_sz S.2.2.2.1) ≤ R.slots)
    (kk : ∀ (ad' : Nat → Nat) (ca' : Nat → ClassId), (∀ k, k < S.2.2.2.1.length → ad' k = ad k) → (hF.1 = S.2.2.2.1 → ad' = ad) → dm_go D p l e R s mm args below meth c Q A b m ad' ca' (cells + (hF.1.length - S.2.2.2.1.length)) (slots + (dm_sz hF.1 - dm_sz S.2.2.2.1)) (S2.1, S2.2.1, r.toList ++ S2.2.2.1, hF)) :
    dm_go D p l e R s mm args below meth c Q A b m ad ca cells slots S := by
  obtain ⟨ins, len, hd, hn, hx⟩ := dm_st_inv hs
  obtain ⟨pc, ls, st, h⟩ := S
  dsimp only at hd hx hM hm1 hm2 hok hRc kk ⊢
  intro H locs arr hl hg hW hS
  obtain ⟨hx0, hb, hml, ho, hts, hini, hK, hN, hAO⟩ := id E
  have hpc := dm_x_C hx
  have hl : dm_lh arr (mX m) (dm_cv ad b) ls := hl
  have hg : dm_lg m ls := hg
  have hW : dm_W D A b ad ca h s H := hW
  obtain ⟨i, kd, rest, e2, hk⟩ := (hpc : ∃ i kd r, S2 = (pc + 3, ls, r, h) ∧ _)
  subst e2
  dsimp only at hok kk
  -- behind the call
  have after : ∀ (a : Array Value) (mc ms : Nat), mc = hF.1.length - h.1.length → ms = dm_sz hF.1 - dm_sz h.1 → va_Run p l e R s mm args below meth c H locs cells slots mc ms (F0 mm pc arr (st.map (dm_cv ad b))) (rest.map (dm_cv ad b)) (dm_Qc D b ad ca h hF r H.size a) (va_A (dm_w (dm_cv ad b) ad ca h) H.size) →
      W p l e R s mm args below meth c H locs cells slots Q (F0 mm pc arr (st.map (dm_cv ad b))) := by
    intro a mc ms e1 e2 hr
    subst e1
    subst e2
    refine dm_join hr hS hW.2.1 hA (fun ad' ca' H1 locs1 had hsame hW1 hS1 => ?_)
    have e3 : rest.map (dm_cv ad' b) = rest.map (dm_cv ad b) := by
      rcases hok with h1 | h1
      · rw [hsame h1]
      · exact dm_okl_st had h1
    have hl' : dm_lh arr (mX m) (dm_cv ad' b) ls := by
      rcases hok with h1 | h1
      · rw [hsame h1]; exact hl
      · exact dm_okl_lh had h1 hl
    have k1 := kk ad' ca' had hsame H1 locs1 arr hl' hg hW1 hS1
    dsimp only at k1
    have e4 : (r.toList ++ rest).map (dm_cv ad' b) = (r.map (dm_cv ad' b)).toList ++ rest.map (dm_cv ad b) := by
      rw [List.map_append, e3]
      cases r <;> rfl
    rw [e4] at k1
    exact k1
  have pcU : ∀ U : State, U.heap = H → s.WarmedH U.vm → dm_Pc (dm_sc scr y) D b ad ca h H.size as (as.map (dm_cv ad b)).toArray U := by
    intro U hU hWm
    refine ⟨rfl, by rw [hU], ?_, va_K.moved hWm.alike hK, fun w hw => dm_N_warm hw hWm (hN w hw), va_AO.moved hWm.alike hAO, ?_⟩
    · rw [hU]
      exact dm_W.moved hWm.alike ⟨hW.1, hW.2.1.weaken (fun _ _ _ _ => trivial), hW.2.2.1, hW.2.2.2⟩
    · intro L xs z
      have z1 : scr = some (L, xs) := by
        unfold dm_sc at z
        split at z
        · exact z
        · cases z
      obtain ⟨x1, x2, x3⟩ := X L xs z1
      rw [hU]
      refine ⟨va_X.moved hWm.alike (x1.kept (hS.2.1 b x2 x3)), Nat.lt_of_lt_of_le x2 hS.1, fun k hk e => x3 ?_⟩
      obtain ⟨kd, hkd⟩ : ∃ kd, h.1[k]? = some kd := ⟨_, List.getElem?_eq_getElem hk⟩
      have h5 := hW.2.1.2 k _ (dm_w_get (f := dm_cv ad b) (ad := ad) (ca := ca) hkd)
      rw [← e]
      exact h5
  rcases hk with ⟨rfl, hk⟩ | ⟨rfl, hk⟩ | ⟨rfl, hk⟩
  · -- invokevirtual
    obtain rfl : 3 = len := hn.resolve_left (by simp [dm_len])
    obtain ⟨hrM, hks, h7, h8, h9, hst, hlen, hr4, hf1, hf2, haok, hrcv⟩ := hk
    obtain ⟨hw, hck⟩ := dm_okM hrM
    have hkd : kd = 0 ∨ kd = 1 := by simpa using hks
    obtain ⟨a, as', rfl, ci, hci, hOc, hc11⟩ : ∃ a as', as = .ref a :: as' ∧ ∃ ci, h.1[a]? = some (0, ci) ∧ mO y = ci ∧ ci < 10 := by
      cases as with
      | nil => rcases hkd with rfl | rfl <;> simp [dm_rcv] at hrcv
      | cons v as' =>
        cases v with
        | ref a =>
          refine ⟨a, as', rfl, ?_⟩
          have hq : (kd == 0 || kd == 1) = true := by rcases hkd with rfl | rfl <;> rfl
          simp only [dm_rcv, hq, if_true] at hrcv
          split at hrcv
          · next ci hci =>
            simp only [Bool.and_eq_true, beq_iff_eq, decide_eq_true_eq] at hrcv
            exact ⟨ci, hci, hrcv.1, hrcv.2⟩
          · cases hrcv
        | _ => rcases hkd with rfl | rfl <;> simp [dm_rcv] at hrcv
    have hck7 := hck
    simp only [dm_ckm, Bool.or_eq_true, Bool.and_eq_true, bne_iff_ne, ne_eq, beq_iff_eq, decide_eq_true_eq] at hck
    obtain ⟨⟨⟨⟨⟨⟨hmh, hpl⟩, hown⟩, hini0⟩, hmx⟩, hmn⟩, hcw⟩ := hck.resolve_left h7
    have hcwT := dm_cw_T hcw
    obtain ⟨q, hq⟩ : ∃ q, dm_cl[ci]? = some q := ⟨_, List.getElem?_eq_getElem (show ci < dm_cl.length from hc11)⟩
    obtain ⟨o1, o2, o3, o4, o5⟩ := dm_okK hq
    have hrecv := va_recv hK hW.1 hq (dm_w_get (f := dm_cv ad b) (ad := ad) (ca := ca) hci)
    have hcls : q.1 = (mY y).cls := by rw [o5, hown]; unfold dm_own; rw [hOc]
    rw [hcls] at hrecv
    have hn' : (as'.map (dm_cv ad b)).length = mN y := by
      have hz : ¬ (kd = 2 ∨ kd = 3) := by rcases hkd with rfl | rfl <;> decide
      rw [if_neg hz] at hlen
      rw [List.length_map]
      simp only [List.length_cons] at hlen
      omega
    have hstk : st.map (dm_cv ad b) = (as'.map (dm_cv ad b)).reverse ++ .ref (ad a) :: rest.map (dm_cv ad b) := by
      rw [hst]
      simp [dm_cv]
    rcases hkd with rfl | rfl
    · have w1 := dm_TN (hw (.methodLink (dm_ow.getD (mO m) "") i (mY y)) (by simp [dm_wM])) rfl
      have w2 := dm_TN (hw (.instanceMethod (mY y)) (by simp [dm_wM])) rfl
      have w3 := dm_TN (hw (.selects (mY y).cls (mY y) (mY y)) (by simp [dm_wM])) rfl
      have w4 := dm_TN (hw (.initialized (mY y).cls) (by simp [dm_wM])) rfl
      have hGood : GoodIn (dm_Ts m) (wsV (dm_own m) i (mY y).cls (mY y) (dm_Ts y)) := dm_good (fun w hw9 => by
        simp only [wsV, dm_Ts, List.mem_append, List.mem_cons, List.mem_nil_iff, or_false] at hw9
        rcases hw9 with (rfl | rfl | rfl | rfl) | rfl | hw9
        · exact w1
        · exact w2
        · exact w3
        · exact w4
        · exact hcwT
        · exact hw9)
      exact after _ _ _ rfl rfl (va_runV (As := as'.map (dm_cv ad b)) (b := ad a) (C := (mY y).cls) ⟨hx0, hb, hml, ho, hts⟩ (hM b ad ca H.size) (cwV (mN y) hts hGood rfl rfl rfl ⟨rfl, hmh⟩ ⟨by show mF y + 1 ≤ R.frames; omega, by show 8 + (mX y + 11) + mL y ≤ R.locals; omega⟩) ⟨dm_Pc_blind, hrecv, pcU⟩ rfl hn' hl.1 hstk (lv_room (dm_rk_sum hr4)) hd hRc)
    · have w1 := dm_NT (hw (.methodLinkNest (dm_ow.getD (mO m) "") i (mY y) "BlindGuides") (by simp [dm_wM])) rfl
      have w2 := dm_TN (hw (.instanceMethod (mY y)) (by simp [dm_wM])) rfl
      have w3 := dm_TN (hw (.selects (mY y).cls (mY y) (mY y)) (by simp [dm_wM])) rfl
      have w4 := dm_TN (hw (.initialized (mY y).cls) (by simp [dm_wM])) rfl
      have hGood : GoodIn (dm_Ts m) (dm_Ts y) := dm_good (fun w hw9 => by
        rcases List.mem_cons.mp hw9 with rfl | hw9
        · exact hcwT
        · exact hw9)
      exact after _ _ _ rfl rfl (va_runVN (As := as'.map (dm_cv ad b)) (b := ad a) (C := (mY y).cls) ⟨hx0, hb, hml, ho, hts⟩ (hM b ad ca H.size) ⟨va_cnB (mN y) hts hGood rfl rfl rfl (hN _ w1) (hts _ (List.mem_cons_of_mem _ w4)) hmh ⟨by show mF y + 1 ≤ R.frames; omega, by show 8 + (mX y + 11) + mL y ≤ R.locals; omega⟩, hts _ (List.mem_cons_of_mem _ w2), hts _ (List.mem_cons_of_mem _ w3)⟩ ⟨dm_Pc_blind, hrecv, pcU⟩ rfl hn' hl.1 hstk (lv_room (dm_rk_sum hr4)) hd hRc)
  · -- invokestatic
    obtain rfl : 3 = len := hn.resolve_left (by simp [dm_len])
    obtain ⟨hrM, hks, h7, h8, h9, hst, hlen, hr4, hf1, hf2, haok, hrcv⟩ := hk
    obtain ⟨hw, hck⟩ := dm_okM hrM
    have hkd : kd = 2 ∨ kd = 3 := by
      simp only [List.mem_cons, List.mem_nil_iff, or_false] at hks
      omega
    simp only [dm_ckm, Bool.or_eq_true, Bool.and_eq_true, bne_iff_ne, ne_eq, beq_iff_eq, decide_eq_true_eq] at hck
    obtain ⟨⟨⟨⟨⟨⟨hmh, hpl⟩, hown⟩, hini0⟩, hmx⟩, hmn⟩, hcw⟩ := hck.resolve_left h7
    have hcwT := dm_cw_T hcw
    have hn' : (as.map (dm_cv ad b)).length = mN y := by
      rw [if_pos hkd] at hlen
      rw [List.length_map]
      omega
    have hstk : st.map (dm_cv ad b) = (as.map (dm_cv ad b)).reverse ++ rest.map (dm_cv ad b) := by
      rw [hst]
      simp
    rcases hkd with rfl | rfl
    · have w1 := dm_TN (hw (.methodLink (dm_ow.getD (mO m) "") i (mY y)) (by simp [dm_wM])) rfl
      have w2 := dm_TN (hw (.static (mY y)) (by simp [dm_wM])) rfl
      have w4 := dm_TN (hw (.initialized (mY y).cls) (by simp [dm_wM])) rfl
      have hGood : GoodIn (dm_Ts m) (va_wsS (dm_own m) i (mY y) (dm_Ts y)) := dm_good (fun w hw9 => by
        simp only [va_wsS, dm_Ts, List.mem_append, List.mem_cons, List.mem_nil_iff, or_false] at hw9
        rcases hw9 with (rfl | rfl | rfl) | rfl | hw9
        · exact w1
        · exact w2
        · exact w4
        · exact hcwT
        · exact hw9)
      exact after _ _ _ rfl rfl (va_runS (As := as.map (dm_cv ad b)) ⟨hx0, hb, hml, ho, hts⟩ (hM b ad ca H.size) (va_cwS (mN y) hts hGood rfl rfl rfl hmh ⟨by show mF y + 1 ≤ R.frames; omega, by show 8 + (mX y + 11) + mL y ≤ R.locals; omega⟩) ⟨dm_Pc_blind, pcU⟩ rfl hn' hl.1 hstk (lv_room (dm_rk_sum hr4)) hd hRc)
    · have w1 := dm_NT (hw (.methodLinkNest (dm_ow.getD (mO m) "") i (mY y) "BlindGuides") (by simp [dm_wM])) rfl
      have w2 := dm_TN (hw (.static (mY y)) (by simp [dm_wM])) rfl
      have w4 := dm_TN (hw (.initialized (mY y).cls) (by simp [dm_wM])) rfl
      have hGood : GoodIn (dm_Ts m) (dm_Ts y) := dm_good (fun w hw9 => by
        rcases List.mem_cons.mp hw9 with rfl | hw9
        · exact hcwT
        · exact hw9)
      exact after _ _ _ rfl rfl (va_runSN (As := as.map (dm_cv ad b)) ⟨hx0, hb, hml, ho, hts⟩ (hM b ad ca H.size) ⟨va_cnB (mN y) hts hGood rfl rfl rfl (hN _ w1) (hts _ (List.mem_cons_of_mem _ w4)) hmh ⟨by show mF y + 1 ≤ R.frames; omega, by show 8 + (mX y + 11) + mL y ≤ R.locals; omega⟩, hts _ (List.mem_cons_of_mem _ w2), trivial⟩ ⟨dm_Pc_blind, pcU⟩ rfl hn' hl.1 hstk (lv_room (dm_rk_sum hr4)) hd hRc)
  · -- invokespecial
    obtain rfl : 3 = len := hn.resolve_left (by simp [dm_len])
    obtain ⟨hrM, hks, h7, h8, h9, hst, hlen, hr4, hf1, hf2, haok, hrcv⟩ := hk
    obtain ⟨hw, hck⟩ := dm_okM hrM
    have hkd : kd = 5 ∨ kd = 6 := by
      simp only [List.mem_cons, List.mem_nil_iff, or_false] at hks
      omega
    simp only [dm_ckm, Bool.or_eq_true, Bool.and_eq_true, bne_iff_ne, ne_eq, beq_iff_eq, decide_eq_true_eq] at hck
    obtain ⟨⟨⟨⟨⟨⟨hmh, hpl⟩, hown⟩, hini0⟩, hmx⟩, hmn⟩, hcw⟩ := hck.resolve_left h7
    have hcwT := dm_cw_T hcw
    have hini1 : (mY y).name = "<init>" ∧ mR y = none := hini0.resolve_right (fun z => by
      rcases hkd with rfl | rfl
      · exact z.1 rfl
      · exact z.2 rfl)
    obtain ⟨a, as', rfl⟩ : ∃ a as', as = .ref a :: as' := by
      cases as with
      | nil => rcases hkd with rfl | rfl <;> simp [dm_rcv] at hrcv
      | cons v as' =>
        cases v with
        | ref a => exact ⟨a, as', rfl⟩
        | _ => rcases hkd with rfl | rfl <;> simp [dm_rcv] at hrcv
    have hn' : (as'.map (dm_cv ad b)).length = mN y := by
      have hz : ¬ (kd = 2 ∨ kd = 3) := by rcases hkd with rfl | rfl <;> decide
      rw [if_neg hz] at hlen
      rw [List.length_map]
      simp only [List.length_cons] at hlen
      omega
    have hstk : st.map (dm_cv ad b) = (as'.map (dm_cv ad b)).reverse ++ .ref (ad a) :: rest.map (dm_cv ad b) := by
      rw [hst]
      simp [dm_cv]
    have hTs : dm_Ts y = Cond.code (mY y) (mB y) (mX y) none :: dm_T := by unfold dm_Ts; rw [hini1.2]
    have hGood : GoodIn (dm_Ts m) (dm_Ts y) := dm_good (fun w hw9 => by
      rcases List.mem_cons.mp hw9 with rfl | hw9
      · exact hcwT
      · exact hw9)
    rcases hkd with rfl | rfl
    · have w1 := dm_TN (hw (.methodLink (dm_ow.getD (mO m) "") i (mY y)) (by simp [dm_wM])) rfl
      have w2 := dm_TN (hw (.instanceMethod (mY y)) (by simp [dm_wM])) rfl
      have w4 := dm_TN (hw (.initialized (mY y).cls) (by simp [dm_wM])) rfl
      exact after _ _ _ rfl rfl (va_runI (As := as'.map (dm_cv ad b)) (b := ad a) ⟨hx0, hb, hml, ho, hts⟩ (hM b ad ca H.size) (cwI (mN y) hts hGood hTs rfl rfl (hts _ (List.mem_cons_of_mem _ w4)) (hts _ (List.mem_cons_of_mem _ w1)) (hts _ (List.mem_cons_of_mem _ w2)) hini1.1 hmh ⟨by show mF y + 1 ≤ R.frames; omega, by show 8 + (mX y + 11) + mL y ≤ R.locals; omega⟩) ⟨dm_Pc_blind, pcU⟩ rfl hn' hl.1 hstk (lv_room (dm_rk_sum hr4)) hd hRc)
    · have w1 := dm_NT (hw (.methodLinkNest (dm_ow.getD (mO m) "") i (mY y) "BlindGuides") (by simp [dm_wM])) rfl
      have w2 := dm_TN (hw (.instanceMethod (mY y)) (by simp [dm_wM])) rfl
      have w4 := dm_TN (hw (.initialized (mY y).cls) (by simp [dm_wM])) rfl
      exact after _ _ _ rfl rfl (va_runIN (As := as'.map (dm_cv ad b)) (b := ad a) ⟨hx0, hb, hml, ho, hts⟩ (hM b ad ca H.size) ⟨va_cnB (mN y) hts hGood hTs rfl rfl (hN _ w1) (hts _ (List.mem_cons_of_mem _ w4)) hmh ⟨by show mF y + 1 ≤ R.frames; omega, by show 8 + (mX y + 11) + mL y ≤ R.locals; omega⟩, hini1.1, hts _ (List.mem_cons_of_mem _ w2)⟩ ⟨dm_Pc_blind, pcU⟩ rfl hn' hl.1 hstk (lv_room (dm_rk_sum hr4)) hd hRc)
end DMC
