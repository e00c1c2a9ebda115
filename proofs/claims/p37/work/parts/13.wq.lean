/-! runs behind the constructors: the kinds of cells are KS from now on -/
def KS : List (Nat × Nat) := [(0, 9), (1, 240), (0, 6), (1, 0), (0, 1), (1, 8), (1, 24), (1, 8), (1, 6), (1, 6), (1, 6), (1, 6), (1, 6), (1, 12), (0, 1), (1, 8), (1, 24), (1, 8), (1, 6), (1, 6), (1, 6), (1, 6), (1, 6), (1, 12), (0, 7), (1, 6), (1, 6), (1, 6), (0, 5), (3, 16), (0, 7), (1, 6), (1, 6), (1, 6), (0, 7), (1, 6), (1, 6), (1, 6), (0, 7), (1, 6), (1, 6), (1, 6), (0, 7), (1, 6), (1, 6), (1, 6), (0, 7), (1, 6), (1, 6), (1, 6), (0, 7), (1, 6), (1, 6), (1, 6), (0, 7), (1, 6), (1, 6), (1, 6), (0, 7), (1, 6), (1, 6), (1, 6), (0, 7), (1, 6), (1, 6), (1, 6), (0, 7), (1, 6), (1, 6), (1, 6), (0, 7), (1, 6), (1, 6), (1, 6), (0, 7), (1, 6), (1, 6), (1, 6), (0, 7), (1, 6), (1, 6), (1, 6), (0, 7), (1, 6), (1, 6), (1, 6), (0, 7), (1, 6), (1, 6), (1, 6), (0, 7), (1, 6), (1, 6), (1, 6), (0, 3), (3, 2), (0, 7), (1, 6), (1, 6), (1, 6), (0, 7), (1, 6), (1, 6), (1, 6), (1, 2), (0, 2), (1, 8), (0, 0), (1, 15), (1, 15), (0, 8), (1, 256), (1, 256), (1, 256), (0, 4), (1, 36), (1, 36), (1, 448), (1, 55), (1, 12), (1, 22)]
def kt (k : Nat) : Nat := match KS[k]? with
  | some q => q.1
  | none => 0
def kl (k : Nat) : Nat := match KS[k]? with
  | some q => q.2
  | none => 0
theorem kt_of {k t : Nat} (h : kt k = t + 1) : KS[k]? = some (t + 1, kl k) := by
  unfold kt at h
  unfold kl
  cases hk : KS[k]? with
  | none => rw [hk] at h; cases h
  | some q =>
    rw [hk] at h
    obtain ⟨a, b⟩ := q
    dsimp only at h ⊢
    rw [h]
/-- an int of the heap -/
def gi (σ : dm_G) (k j : Nat) : Int32 := dm_i (σ k j)
theorem KS_len : KS.length = 121 := by decide +kernel
def Wq (scr : dm_Sc) (m pc : Nat) (ls : dm_L) (st : List Value) (σ : dm_G) (Q : Option Value → dm_G → Prop) : Prop := ∃ (n : Nat) (r : Option Value) (σ' : dm_G), dm_run scr n m (pc, ls, st, (KS, σ)) = some (r, (KS, σ')) ∧ Q r σ'
/-- a call's run: with the script scr -/
def Es (scr : dm_Sc) (y : Nat) (as : List Value) (σ : dm_G) (r : Option Value) (σ' : dm_G) : Prop := ∃ n : Nat, dm_run scr n y (0, dm_in0 y as, [], (KS, σ)) = some (r, (KS, σ'))
abbrev Er (y : Nat) (as : List Value) (σ : dm_G) (r : Option Value) (σ' : dm_G) : Prop := Es none y as σ r σ'
def Cs (scr : dm_Sc) (y : Nat) (as : List Value) (σ : dm_G) (Q : Option Value → dm_G → Prop) : Prop := ∃ (r : Option Value) (σ' : dm_G), Es scr y as σ r σ' ∧ Q r σ'
abbrev Cq (y : Nat) (as : List Value) (σ : dm_G) (Q : Option Value → dm_G → Prop) : Prop := Cs none y as σ Q
theorem Es.det {scr : dm_Sc} {y : Nat} {as : List Value} {σ σ1 σ2 : dm_G} {r1 r2 : Option Value} (h1 : Es scr y as σ r1 σ1) (h2 : Es scr y as σ r2 σ2) : r1 = r2 ∧ σ1 = σ2 := by
  obtain ⟨n1, h1⟩ := h1
  obtain ⟨n2, h2⟩ := h2
  have a1 := dm_run_le n1 h1 (n1 + n2) (by omega)
  have a2 := dm_run_le n2 h2 (n1 + n2) (by omega)
  rw [a1] at a2
  have a3 := Option.some.inj a2
  exact ⟨congrArg Prod.fst a3, congrArg (fun q => q.2.2) a3⟩
theorem Er.det {y : Nat} {as : List Value} {σ σ1 σ2 : dm_G} {r1 r2 : Option Value} (h1 : Er y as σ r1 σ1) (h2 : Er y as σ r2 σ2) : r1 = r2 ∧ σ1 = σ2 := Es.det h1 h2
/-- a known call goes on with its answer -/
theorem Cs_of {scr : dm_Sc} {y : Nat} {as : List Value} {σ σ' : dm_G} {r : Option Value} {Q : Option Value → dm_G → Prop} (h : Es scr y as σ r σ') : Cs scr y as σ Q = Q r σ' := by
  apply propext
  constructor
  · rintro ⟨r2, σ2, h2, hq⟩
    obtain ⟨rfl, rfl⟩ := h.det h2
    exact hq
  · exact fun hq => ⟨r, σ', h, hq⟩
theorem Cq_of {y : Nat} {as : List Value} {σ σ' : dm_G} {r : Option Value} {Q : Option Value → dm_G → Prop} (h : Er y as σ r σ') : Cq y as σ Q = Q r σ' := Cs_of h
theorem Es_of {scr : dm_Sc} {y : Nat} {as : List Value} {σ σ' : dm_G} {r : Option Value} (h : Wq scr y 0 (dm_in0 y as) [] σ (fun r' σ2 => r' = r ∧ σ2 = σ')) : Es scr y as σ r σ' := by
  obtain ⟨n, r2, σ2, h1, rfl, rfl⟩ := h
  exact ⟨n, h1⟩
theorem Er_of {y : Nat} {as : List Value} {σ σ' : dm_G} {r : Option Value} (h : Wq none y 0 (dm_in0 y as) [] σ (fun r' σ2 => r' = r ∧ σ2 = σ')) : Er y as σ r σ' := Es_of h
theorem Er_ex {y : Nat} {as : List Value} {σ : dm_G} {Q : Option Value → dm_G → Prop} (h : Wq none y 0 (dm_in0 y as) [] σ Q) : Cq y as σ Q := by
  obtain ⟨n, r2, σ2, h1, hq⟩ := h
  exact ⟨r2, σ2, ⟨n, h1⟩, hq⟩
theorem Es_ex {scr : dm_Sc} {y : Nat} {as : List Value} {σ : dm_G} {Q : Option Value → dm_G → Prop} (h : Wq scr y 0 (dm_in0 y as) [] σ Q) : Cs scr y as σ Q := by
  obtain ⟨n, r2, σ2, h1, hq⟩ := h
  exact ⟨r2, σ2, ⟨n, h1⟩, hq⟩
theorem sc_off {scr : dm_Sc} {y : Nat} (h : (mO y == 13) = false) : dm_sc scr y = none := by
  unfold dm_sc
  rw [if_neg (by simpa using h)]
theorem sc_on {scr : dm_Sc} {y : Nat} (h : (mO y == 13) = true) : dm_sc scr y = scr := by
  unfold dm_sc
  rw [if_pos (by simpa using h)]
theorem sc_none {y : Nat} : dm_sc none y = none := by
  unfold dm_sc
  split <;> rfl
section WQ
variable {scr : dm_Sc} {m pc pc' : Nat} {ls ls' : dm_L} {st st' : List Value} {σ σ' : dm_G} {Q : Option Value → dm_G → Prop}
theorem wq_st (hs : dm_st scr m (pc, ls, st, (KS, σ)) = some (.inl (pc', ls', st', (KS, σ')))) : Wq scr m pc ls st σ Q = Wq scr m pc' ls' st' σ' Q := by
  apply propext
  constructor
  · rintro ⟨n, r, τ, h, hq⟩
    cases n with
    | zero => simp [dm_run] at h
    | succ n =>
      simp only [dm_run, hs] at h
      exact ⟨n, r, τ, h, hq⟩
  · rintro ⟨n, r, τ, h, hq⟩
    exact ⟨n + 1, r, τ, by simp only [dm_run, hs]; exact h, hq⟩
theorem wq_rt {r : Option Value} (hs : dm_st scr m (pc, ls, st, (KS, σ)) = some (.inr (.inl (r, (KS, σ))))) : Wq scr m pc ls st σ Q = Q r σ := by
  apply propext
  constructor
  · rintro ⟨n, r', τ, h, hq⟩
    cases n with
    | zero => simp [dm_run] at h
    | succ n =>
      simp only [dm_run, hs, Option.some.injEq, Prod.mk.injEq] at h
      obtain ⟨rfl, -, rfl⟩ := h
      exact hq
  · exact fun hq => ⟨1, r, σ, by simp only [dm_run, hs], hq⟩
theorem wq_cl {y : Nat} {as : List Value} {sc : dm_Sc} (hy : dm_sc scr y = sc) (hs : dm_st scr m (pc, ls, st, (KS, σ)) = some (.inr (.inr (y, as, (pc', ls', st', (KS, σ)))))) : Wq scr m pc ls st σ Q = Cs sc y as σ (fun r σ' => Wq scr m pc' ls' (r.toList ++ st') σ' Q) := by
  subst hy
  apply propext
  constructor
  · rintro ⟨n, r', τ, h, hq⟩
    cases n with
    | zero => simp [dm_run] at h
    | succ n =>
      simp only [dm_run, hs] at h
      split at h
      · cases h
      · next r h' hr =>
        split at h
        · obtain ⟨l1, e1⟩ := dm_run_pre n hr
          obtain ⟨l2, e2⟩ := dm_run_pre n h
          dsimp only at e1 e2
          have e3 := congrArg List.length e2
          rw [e1] at e3
          simp only [List.length_append] at e3
          have e4 : l1 = [] := List.eq_nil_of_length_eq_zero (by omega)
          rw [e4, List.append_nil] at e1
          obtain ⟨K', τ'⟩ := h'
          dsimp only at e1
          subst e1
          exact ⟨r, τ', ⟨n, hr⟩, n, r', τ, h, hq⟩
        · cases h
  · rintro ⟨r, τ', ⟨n1, h1⟩, n2, r', τ, h2, hq⟩
    refine ⟨n1 + n2 + 1, r', τ, ?_, hq⟩
    simp only [dm_run, hs, dm_run_le n1 h1 (n1 + n2) (by omega), decide_true, Bool.true_or, if_true]
    exact dm_run_le n2 h2 (n1 + n2) (by omega)
theorem dm_st_of {ins : Instr} {len : Nat} {S : dm_S} (hd : decode (mB m) S.1 = .ok (ins, len)) (hl : (dm_len ins == 0 || dm_len ins == len) = true) : dm_st scr m S = dm_x scr m ins S.1 S.2.1 S.2.2.1 S.2.2.2 := by
  unfold dm_st
  rw [hd]
  dsimp only
  rw [if_pos hl]
theorem wq_n {ins : Instr} {len : Nat} (hd : decode (mB m) pc = .ok (ins, len)) (hl : (dm_len ins == 0 || dm_len ins == len) = true) (hx : dm_x scr m ins pc ls st (KS, σ) = some (.inl (pc', ls', st', (KS, σ')))) : Wq scr m pc ls st σ Q = Wq scr m pc' ls' st' σ' Q :=
  wq_st ((dm_st_of (S := (pc, ls, st, (KS, σ))) hd hl).trans hx)
theorem wq_r {ins : Instr} {len : Nat} {r : Option Value} (hd : decode (mB m) pc = .ok (ins, len)) (hl : (dm_len ins == 0 || dm_len ins == len) = true) (hx : dm_x scr m ins pc ls st (KS, σ) = some (.inr (.inl (r, (KS, σ))))) : Wq scr m pc ls st σ Q = Q r σ :=
  wq_rt ((dm_st_of (S := (pc, ls, st, (KS, σ))) hd hl).trans hx)
theorem wq_c {ins : Instr} {len y : Nat} {as : List Value} {sc : dm_Sc} (hy : dm_sc scr y = sc) (hd : decode (mB m) pc = .ok (ins, len)) (hl : (dm_len ins == 0 || dm_len ins == len) = true) (hx : dm_x scr m ins pc ls st (KS, σ) = some (.inr (.inr (y, as, (pc', ls', st', (KS, σ)))))) : Wq scr m pc ls st σ Q = Cs sc y as σ (fun r σ' => Wq scr m pc' ls' (r.toList ++ st') σ' Q) :=
  wq_cl hy ((dm_st_of (S := (pc, ls, st, (KS, σ))) hd hl).trans hx)
/-- branches -/
theorem wq_icmp {cd : ClassFile.Cond} {off : Int} {x y : Int32} {t : Nat} (hd : decode (mB m) pc = .ok (.if_icmp cd off, 3)) (ht : dm_jo pc off = true ∧ dm_jp pc off = t) : Wq scr m pc ls (.int y :: .int x :: st) σ Q = if dm_cmp cd x y = true then Wq scr m t ls st σ Q else Wq scr m (pc + 3) ls st σ Q := by
  have hx : dm_x scr m (.if_icmp cd off) pc ls (.int y :: .int x :: st) (KS, σ) = some (.inl (if dm_cmp cd x y then t else pc + 3, ls, st, (KS, σ))) := by
    simp only [dm_x, dm_br, ht.1, if_true, dm_nx, ht.2]
  rw [wq_n hd rfl hx]
  split <;> rfl
theorem wq_if {cd : ClassFile.Cond} {off : Int} {x : Int32} {t : Nat} (hd : decode (mB m) pc = .ok (.ifCond cd off, 3)) (ht : dm_jo pc off = true ∧ dm_jp pc off = t) : Wq scr m pc ls (.int x :: st) σ Q = if dm_cmp cd x 0 = true then Wq scr m t ls st σ Q else Wq scr m (pc + 3) ls st σ Q := by
  have hx : dm_x scr m (.ifCond cd off) pc ls (.int x :: st) (KS, σ) = some (.inl (if dm_cmp cd x 0 then t else pc + 3, ls, st, (KS, σ))) := by
    simp only [dm_x, dm_br, ht.1, if_true, dm_nx, ht.2]
  rw [wq_n hd rfl hx]
  split <;> rfl
theorem wq_get {i a ci k : Nat} {nest : Bool} (hd : decode (mB m) pc = .ok (.getfield i, 3)) (hF : rF (mO m) i = some (ci, k, nest)) (hk : KS[a]? = some (0, ci)) : Wq scr m pc ls (.ref a :: st) σ Q = Wq scr m (pc + 3) ls (σ a k :: st) σ Q :=
  wq_n hd rfl (by simp only [dm_x, hF, hk, beq_self_eq_true, if_true, dm_nx])
theorem wq_put {i a ci k : Nat} {nest : Bool} {v : Value} (hd : decode (mB m) pc = .ok (.putfield i, 3)) (hF : rF (mO m) i = some (ci, k, nest)) (hk : KS[a]? = some (0, ci)) (hf : dm_fit KS.length (dm_tyf ci k) v = true) (hfin : dm_fin ci k = false) : Wq scr m pc ls (v :: .ref a :: st) σ Q = Wq scr m (pc + 3) ls st (dm_up σ a k v) Q :=
  wq_n hd rfl (by simp only [dm_x, hF, hk, beq_self_eq_true, if_true, dm_nx, hf, hfin, Bool.not_false, Bool.true_or, Bool.and_self])
theorem wq_iald {a n : Nat} {i : Int32} (hd : decode (mB m) pc = .ok (.iaload, 1)) (hk : KS[a]? = some (1, n)) (hi : dm_in i n = true) : Wq scr m pc ls (.int i :: .ref a :: st) σ Q = Wq scr m (pc + 1) ls (.int (gi σ a i.toNatClampNeg) :: st) σ Q :=
  wq_n hd rfl (by simp only [dm_x, hk, hi, if_true, dm_nx, gi])
theorem wq_bald {a n : Nat} {i : Int32} (hd : decode (mB m) pc = .ok (.baload, 1)) (hk : KS[a]? = some (2, n)) (hi : dm_in i n = true) : Wq scr m pc ls (.int i :: .ref a :: st) σ Q = Wq scr m (pc + 1) ls (.int (gi σ a i.toNatClampNeg) :: st) σ Q :=
  wq_n hd rfl (by simp only [dm_x, hk, hi, if_true, dm_nx, gi])
theorem wq_aald {a n k : Nat} {i : Int32} (hd : decode (mB m) pc = .ok (.aaload, 1)) (hk : KS[a]? = some (3, n)) (hi : dm_in i n = true) (hv : σ a i.toNatClampNeg = .ref k) : Wq scr m pc ls (.int i :: .ref a :: st) σ Q = Wq scr m (pc + 1) ls (.ref k :: st) σ Q :=
  wq_n hd rfl (by simp only [dm_x, hk, hi, if_true, dm_nx, hv])
theorem wq_iast {a n : Nat} {i x : Int32} (hd : decode (mB m) pc = .ok (.iastore, 1)) (hk : KS[a]? = some (1, n)) (hi : dm_in i n = true) : Wq scr m pc ls (.int x :: .int i :: .ref a :: st) σ Q = Wq scr m (pc + 1) ls st (dm_up σ a i.toNatClampNeg (.int x)) Q :=
  wq_n hd rfl (by simp only [dm_x, hk, hi, if_true, dm_nx])
theorem wq_bast {a n : Nat} {i x : Int32} (hd : decode (mB m) pc = .ok (.bastore, 1)) (hk : KS[a]? = some (2, n)) (hi : dm_in i n = true) : Wq scr m pc ls (.int x :: .int i :: .ref a :: st) σ Q = Wq scr m (pc + 1) ls st (dm_up σ a i.toNatClampNeg (.int (vp_nar .boolean x))) Q :=
  wq_n hd rfl (by simp only [dm_x, hk, hi, if_true, dm_nx])
theorem wq_alen {a t n : Nat} (hd : decode (mB m) pc = .ok (.arraylength, 1)) (hk : KS[a]? = some (t + 1, n)) : Wq scr m pc ls (.ref a :: st) σ Q = Wq scr m (pc + 1) ls (.int (Int32.ofNat n) :: st) σ Q :=
  wq_n hd rfl (by simp only [dm_x, hk, dm_nx])
theorem wq_iid {ins : Instr} {f : Int32 → Int32 → Int32} {x y : Int32} (hd : decode (mB m) pc = .ok (ins, 1)) (hl : (dm_len ins == 0 || dm_len ins == 1) = true) (hx : dm_x scr m ins pc ls (.int y :: .int x :: st) (KS, σ) = dm_iid f pc ls (.int y :: .int x :: st) (KS, σ)) (hy : ¬ y = 0) : Wq scr m pc ls (.int y :: .int x :: st) σ Q = Wq scr m (pc + 1) ls (.int (f x y) :: st) σ Q :=
  wq_n hd hl (hx.trans (by simp only [dm_iid, decide_eq_true_eq, hy, if_false, dm_nx]))
theorem wq_jjd {ins : Instr} {f : Int64 → Int64 → Int64} {x y : Int64} (hd : decode (mB m) pc = .ok (ins, 1)) (hl : (dm_len ins == 0 || dm_len ins == 1) = true) (hx : dm_x scr m ins pc ls (.long y :: .long x :: st) (KS, σ) = dm_jjd f pc ls (.long y :: .long x :: st) (KS, σ)) (hy : ¬ y = 0) : Wq scr m pc ls (.long y :: .long x :: st) σ Q = Wq scr m (pc + 1) ls (.long (f x y) :: st) σ Q :=
  wq_n hd hl (hx.trans (by simp only [dm_jjd, decide_eq_true_eq, hy, if_false, dm_nx]))
theorem wq_iret {x : Int32} {t : FieldType} (hd : decode (mB m) pc = .ok (.ireturn, 1)) (hR : mR m = some t) (hn : narrow t (.int x) = .int x) : Wq scr m pc ls [.int x] σ Q = Q (some (.int x)) σ :=
  wq_r hd rfl (by simp only [dm_x, hR, hn, decide_true, if_true])
theorem wq_iv {sc : dm_Sc} {ks : List Nat} {ins : Instr} {i y kd n : Nat} {as : List Value} (hd : decode (mB m) pc = .ok (ins, 3)) (hl : (dm_len ins == 0 || dm_len ins == 3) = true) (hx : dm_x scr m ins pc ls (as.reverse ++ st) (KS, σ) = dm_iv ks m i pc ls (as.reverse ++ st) (KS, σ)) (hM : rM (mO m) i = some (y, kd))
    (hks : (ks.contains kd && !(kd == 7) && !(kd == 8 || kd == 9)) = true) (hn : mN y + (if kd == 2 || kd == 3 then 0 else 1) = n) (hc : (decide (as.length = n) && dm_rk st && decide (mF y + 1 ≤ mF m) && decide (8 + (mX y + 11) + mL y ≤ mL m) && dm_aok y as) = true) (hr : dm_rcv kd y as (KS, σ) = true) (hy : dm_sc scr y = sc) :
    Wq scr m pc ls (as.reverse ++ st) σ Q = Cs sc y as σ (fun r σ' => Wq scr m (pc + 3) ls (r.toList ++ st) σ' Q) := by
  simp only [Bool.and_eq_true, Bool.not_eq_true', decide_eq_true_eq] at hks hc
  obtain ⟨⟨h1, h2⟩, h3⟩ := hks
  obtain ⟨⟨⟨⟨c1, c2⟩, c3⟩, c4⟩, c5⟩ := hc
  have hlen : as.reverse.length = n := by rw [List.length_reverse]; exact c1
  have e1 : (as.reverse ++ st).take n = as.reverse := by rw [← hlen]; exact List.take_left
  have e2 : (as.reverse ++ st).drop n = st := by rw [← hlen]; exact List.drop_left
  refine wq_c hy hd hl (hx.trans ?_)
  unfold dm_iv
  rw [hM]
  dsimp only
  rw [h1, if_pos rfl, h2, h3, hn, e1, e2, List.reverse_reverse, hlen, c5, hr]
  simp [c2, c3, c4]
end WQ
