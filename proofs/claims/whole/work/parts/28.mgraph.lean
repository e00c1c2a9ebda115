/-! the reference's graph: streets from an end on -/
/-- the first n places of an array -/
def seta (σ : dm_G) (A n : Nat) (f : Nat → Int32) : dm_G := fun a b => if a = A ∧ b < n then .int (f b) else σ a b
theorem seta_get {σ : dm_G} {A n : Nat} {f : Nat → Int32} {a b : Nat} : seta σ A n f a b = if a = A ∧ b < n then .int (f b) else σ a b := rfl
theorem seta_gi {σ : dm_G} {A n : Nat} {f : Nat → Int32} {a b : Nat} : gi (seta σ A n f) a b = if a = A ∧ b < n then f b else gi σ a b := by
  unfold gi seta
  split <;> rfl
theorem seta_cell {σ : dm_G} {A n : Nat} {f : Nat → Int32} {a : Nat} (h : a ≠ A) : seta σ A n f a = σ a := by
  funext b
  unfold seta
  rw [if_neg (fun z => h z.1)]
theorem seta_up {σ : dm_G} {A n : Nat} {f : Nat → Int32} {j : Nat} {v : Int32} (h : j < n) : dm_up (seta σ A n f) A j (.int v) = seta σ A n (fun b => if b = j then v else f b) := by
  funext a b
  simp only [dm_up, seta]
  by_cases ha : a = A
  · subst ha
    by_cases hb : b = j
    · subst hb; simp [h]
    · simp [hb]
  · simp [ha]
theorem seta_0 {σ : dm_G} {A : Nat} {f : Nat → Int32} : seta σ A 0 f = σ := by
  funext a b
  unfold seta
  rw [if_neg (fun z => by omega)]
theorem seta_s {σ : dm_G} {A n : Nat} {f : Nat → Int32} : dm_up (seta σ A n f) A n (.int (f n)) = seta σ A (n + 1) f := by
  funext a b
  simp only [dm_up, seta]
  by_cases ha : a = A
  · subst ha
    by_cases hb : b = n
    · subst hb; simp
    · have : (b < n + 1) = (b < n) := by apply propext; omega
      simp [hb, this]
  · simp [ha]
theorem up_cell {σ : dm_G} {k j a : Nat} {v : Value} (h : a ≠ k) : dm_up σ k j v a = σ a := dm_up_ne h
theorem MC_of {σ σ' : dm_G} {c : Nat → Nat} (h : σ' 119 = σ 119) (hc : MC σ c) : MC σ' c := fun i hi => by
  have := hc i hi
  unfold gi at this ⊢
  rw [h]
  exact this
theorem MN_of {σ σ' : dm_G} {n : Nat → Nat} (h : σ' 121 = σ 121) (hn : MN σ n) : MN σ' n := fun i hi => by
  have := hn i hi
  unfold gi at this ⊢
  rw [h]
  exact this
theorem MR_of {σ σ' : dm_G} (h : σ' 118 = σ 118) (hM : MR σ) : MR σ' := by
  unfold MR at hM ⊢
  rw [h]
  exact hM
/-- far -/
def FAR : Nat := 100000000
def btN (c aw : Nat → Nat) (o x k : Nat) : Nat := if o.testBit (c (13 + (3 * x + k))) = true ∧ aw (c (13 + (3 * x + k))) < FAR then aw (c (13 + (3 * x + k))) + 1 else FAR
def rlK (c : Nat → Nat) (o x : Nat) (aw : Nat → Nat) : Nat → Nat → Nat := fun k => match k with
  | 0 => aw
  | k + 1 => fun y => if y = x then min (rlK c o x aw k x) (btN c (rlK c o x aw k) o x k) else rlK c o x aw k y
def rlX (c : Nat → Nat) (o : Nat) (aw : Nat → Nat) : Nat → Nat → Nat := fun x => match x with
  | 0 => aw
  | x + 1 => rlK c o x (rlX c o aw x) 3
def rlR (c : Nat → Nat) (o : Nat) (aw : Nat → Nat) : Nat → Nat → Nat := fun r => match r with
  | 0 => aw
  | r + 1 => rlX c o (rlR c o aw r) (c 0)
def ini (e : Nat) : Nat → Nat := fun y => if y = e then 0 else FAR
def lay (c : Nat → Nat) (o e : Nat) : Nat → Nat := rlR c o (ini e) (c 0)
theorem rlK_le {c : Nat → Nat} {o x : Nat} {aw : Nat → Nat} (h : ∀ y, aw y ≤ FAR) : ∀ k y, rlK c o x aw k y ≤ FAR := by
  intro k
  induction k with
  | zero => exact h
  | succ k ih =>
    intro y
    rw [rlK]
    show (if y = x then _ else _) ≤ FAR
    split
    · exact Nat.le_trans (Nat.min_le_left _ _) (ih x)
    · exact ih y
theorem rlX_le {c : Nat → Nat} {o : Nat} {aw : Nat → Nat} (h : ∀ y, aw y ≤ FAR) : ∀ x y, rlX c o aw x y ≤ FAR := by
  intro x
  induction x with
  | zero => exact h
  | succ x ih => exact rlK_le ih 3
theorem rlR_le {c : Nat → Nat} {o : Nat} {aw : Nat → Nat} (h : ∀ y, aw y ≤ FAR) : ∀ r y, rlR c o aw r y ≤ FAR := by
  intro r
  induction r with
  | zero => exact h
  | succ r ih => exact rlX_le ih _
theorem ini_le (e : Nat) : ∀ y, ini e y ≤ FAR := by
  intro y
  unfold ini
  split
  · exact Nat.zero_le _
  · exact Nat.le_refl _
theorem lay_le (c : Nat → Nat) (o e : Nat) : ∀ y, lay c o e y ≤ FAR := rlR_le (ini_le e) _
def aset (σ : dm_G) (aw : Nat → Nat) : dm_G := seta σ 129 8 (fun y => nI (aw y))
theorem aset_gi {σ : dm_G} {aw : Nat → Nat} {y : Nat} (h : y < 8) : gi (aset σ aw) 129 y = nI (aw y) := by
  unfold aset
  rw [seta_gi, if_pos ⟨rfl, h⟩]
theorem aset_cell {σ : dm_G} {aw : Nat → Nat} {a : Nat} (h : a ≠ 129) : aset σ aw a = σ a := seta_cell h
theorem aset_up {σ : dm_G} {aw : Nat → Nat} {j v : Nat} (h : j < 8) : dm_up (aset σ aw) 129 j (.int (nI v)) = aset σ (fun b => if b = j then v else aw b) := by
  unfold aset
  rw [seta_up h]
  congr 1
  funext b
  show _ = nI (if b = j then v else aw b)
  split <;> rfl
theorem aset_aset {σ : dm_G} {aw aw' : Nat → Nat} : aset (aset σ aw) aw' = aset σ aw' := by
  funext a b
  unfold aset seta
  by_cases h : a = 129 ∧ b < 8
  · rw [if_pos h, if_pos h]
  · rw [if_neg h, if_neg h, if_neg h]
section MG
variable {σ : dm_G} {c n : Nat → Nat} {Q : Option Value → dm_G → Prop}
theorem c_byTurn {o x k : Nat} {aw : Nat → Nat} (hM : MR σ) (hc : MC σ c) (hw : WC c) (ho : o < 2 ^ 31) (hx : x < c 0) (hk : k < 3) (ha : ∀ y, aw y ≤ FAR) : Cq 151 [(.ref (118 : Nat)), .int (nI o), .int (nI x), .int (nI k)] (aset σ aw) Q = Q (some (.int (nI (btN c aw o x k)))) (aset σ aw) := by
  obtain ⟨w0, w2, w3, w4, w5, w6, w7, w8, w9⟩ := id hw
  have hM' : MR (aset σ aw) := MR_of (aset_cell (by decide)) hM
  have hc' : MC (aset σ aw) c := MC_of (aset_cell (by decide)) hc
  obtain ⟨m0, m1, m2, m3, m5, m6, m8, m11, m12, m14, m22, m23, m24, m25, m29, m30, m31, m32⟩ := id hM'
  refine Cq_of (Er_of ?_)
  show Wq none 151 0 [some (.ref (118 : Nat)), some (.int (nI o)), some (.int (nI x)), some (.int (nI k)), none] [] _ _
  have hT := w6 (3 * x + k) (by omega)
  have h1 : c (13 + (3 * x + k)) < kl 129 := by rw [kl_129]; omega
  have hFar : FAR < 2 ^ 31 := by decide
  have hfe : nI 100000000 = nI FAR := rfl
  have hle := ha (c (13 + (3 * x + k)))
  by_cases hb : o.testBit (c (13 + (3 * x + k))) = true
  · by_cases hl : aw (c (13 + (3 * x + k))) < FAR
    · have h2 : ¬ nI FAR ≤ nI (aw (c (13 + (3 * x + k)))) := nI_ge hl hFar
      have e : btN c aw o x k = aw (c (13 + (3 * x + k))) + 1 := if_pos ⟨hb, hl⟩
      simp only [w151_0, w151_1, w151_2, w151_3, w151_6, w151_8, w151_9, w151_11, w151_14, w151_17, w151_18, w151_21, w151_23, w151_24, w151_26, w151_29, w151_30, w151_33, w151_35, w151_36, w151_37, w151_38, w151_41, w151_43, ks_118, m22, kt_129, c_turned hM' hc' (show 13 + (3 * x + k) < 79 by omega), c_has ho (show c (13 + (3 * x + k)) < 32 by omega), hb, nI_ne1, in_nI h1 (by rw [kl_129]; omega), nI_clamp (show c (13 + (3 * x + k)) < 2 ^ 31 by omega), aset_gi (show c (13 + (3 * x + k)) < 8 by omega), hfe, h2, nI_add, e, ↓reduceIte, Option.toList_some, Option.toList_none, List.cons_append, List.nil_append, and_self]
    · have h2 : nI FAR ≤ nI (aw (c (13 + (3 * x + k)))) := nI_le (by omega) (by omega)
      have e : btN c aw o x k = FAR := if_neg (fun z => hl z.2)
      simp only [w151_0, w151_1, w151_2, w151_3, w151_6, w151_8, w151_9, w151_11, w151_14, w151_17, w151_18, w151_21, w151_23, w151_24, w151_26, w151_29, w151_30, w151_33, w151_35, w151_36, w151_37, w151_38, w151_41, w151_43, ks_118, m22, kt_129, c_turned hM' hc' (show 13 + (3 * x + k) < 79 by omega), c_has ho (show c (13 + (3 * x + k)) < 32 by omega), hb, nI_ne1, in_nI h1 (by rw [kl_129]; omega), nI_clamp (show c (13 + (3 * x + k)) < 2 ^ 31 by omega), aset_gi (show c (13 + (3 * x + k)) < 8 by omega), hfe, h2, nI_add, e, ↓reduceIte, Option.toList_some, Option.toList_none, List.cons_append, List.nil_append, and_self]
  · have e : btN c aw o x k = FAR := if_neg (fun z => hb z.1)
    simp only [w151_0, w151_1, w151_2, w151_3, w151_6, w151_8, w151_9, w151_11, w151_14, w151_17, w151_18, w151_21, w151_23, w151_24, w151_26, w151_29, w151_30, w151_33, w151_35, w151_36, w151_37, w151_38, w151_41, w151_43, ks_118, m22, kt_129, c_turned hM' hc' (show 13 + (3 * x + k) < 79 by omega), c_has ho (show c (13 + (3 * x + k)) < 32 by omega), hb, hfe, e, ↓reduceIte, Option.toList_some, Option.toList_none, List.cons_append, List.nil_append, Bool.false_eq_true, and_self]
theorem l_layK {o x : Nat} {aw : Nat → Nat} {v2 : Option Value} {rr : Nat} (hM : MR σ) (hc : MC σ c) (hw : WC c) (ho : o < 2 ^ 31) (hx : x < c 0) (ha : ∀ y, aw y ≤ FAR) : ∀ (n k : Nat), k + n = 3 → Wq none 152 60 [some (.ref (118 : Nat)), some (.int (nI o)), v2, some (.int (nI rr)), some (.int (nI x)), some (.int (nI k))] [] (aset σ (rlK c o x aw k)) Q = Wq none 152 46 [some (.ref (118 : Nat)), some (.int (nI o)), v2, some (.int (nI rr)), some (.int (nI (x + 1))), some (.int (nI 3))] [] (aset σ (rlK c o x aw 3)) Q := by
  obtain ⟨m0, m1, m2, m3, m5, m6, m8, m11, m12, m14, m22, m23, m24, m25, m29, m30, m31, m32⟩ := id hM
  obtain ⟨w0, w2, w3, w4, w5, w6, w7, w8, w9⟩ := id hw
  intro n
  induction n with
  | zero =>
    intro k hk
    obtain rfl : k = 3 := by omega
    rw [w152_60]
    simp only [w152_0, w152_1, w152_2, w152_3, w152_5, w152_8, w152_9, w152_12, w152_13, w152_14, w152_15, w152_18, w152_19, w152_22, w152_24, w152_25, w152_28, w152_31, w152_32, w152_34, w152_35, w152_38, w152_39, w152_40, w152_43, w152_44, w152_48, w152_49, w152_52, w152_53, w152_54, w152_57, w152_58, w152_62, w152_63, w152_66, w152_67, w152_70, w152_72, w152_73, w152_76, w152_78, w152_79, w152_80, w152_81, w152_83, w152_85, w152_88, w152_91, w152_92, w152_95, w152_98, w152_101, w152_104, w152_107, w152_110, (by decide : nI 3 ≤ nI 3), nI_add, ↓reduceIte, Option.toList_some, Option.toList_none, List.cons_append, List.nil_append]
  | succ n ih =>
    intro k hk
    have h1 : ¬ nI 3 ≤ nI k := nI_ge (by omega) (by omega)
    have hx8 : x < kl 129 := by rw [kl_129]; omega
    have hFar : FAR < 2 ^ 31 := by decide
    have ha' := rlK_le (c := c) (o := o) (x := x) ha k
    have hb : btN c (rlK c o x aw k) o x k ≤ FAR := by
      unfold btN
      split
      · omega
      · exact Nat.le_refl _
    rw [w152_60]
    simp only [w152_0, w152_1, w152_2, w152_3, w152_5, w152_8, w152_9, w152_12, w152_13, w152_14, w152_15, w152_18, w152_19, w152_22, w152_24, w152_25, w152_28, w152_31, w152_32, w152_34, w152_35, w152_38, w152_39, w152_40, w152_43, w152_44, w152_48, w152_49, w152_52, w152_53, w152_54, w152_57, w152_58, w152_62, w152_63, w152_66, w152_67, w152_70, w152_72, w152_73, w152_76, w152_78, w152_79, w152_80, w152_81, w152_83, w152_85, w152_88, w152_91, w152_92, w152_95, w152_98, w152_101, w152_104, w152_107, w152_110, h1, ks_118, aset_cell (σ := σ) (aw := rlK c o x aw k) (show 118 ≠ 129 by decide), m22, kt_129, in_nI hx8 (by rw [kl_129]; omega), nI_clamp (show x < 2 ^ 31 by omega), aset_gi (show x < 8 by omega), c_byTurn hM hc hw ho hx (show k < 3 by omega) ha', c_lesser (Nat.lt_of_le_of_lt (ha' x) hFar) (Nat.lt_of_le_of_lt hb hFar), aset_up (show x < 8 by omega), nI_add, ↓reduceIte, Option.toList_some, Option.toList_none, List.cons_append, List.nil_append]
    exact ih (k + 1) (by omega)
theorem l_layX {o : Nat} {aw : Nat → Nat} {v2 : Option Value} {rr : Nat} (hM : MR σ) (hc : MC σ c) (hw : WC c) (ho : o < 2 ^ 31) (ha : ∀ y, aw y ≤ FAR) : ∀ (n x : Nat) (v5 : Option Value), x + n = c 0 → Wq none 152 46 [some (.ref (118 : Nat)), some (.int (nI o)), v2, some (.int (nI rr)), some (.int (nI x)), v5] [] (aset σ (rlX c o aw x)) Q = Wq none 152 33 [some (.ref (118 : Nat)), some (.int (nI o)), v2, some (.int (nI (rr + 1))), some (.int (nI (c 0))), if n = 0 then v5 else some (.int (nI 3))] [] (aset σ (rlX c o aw (c 0))) Q := by
  obtain ⟨m0, m1, m2, m3, m5, m6, m8, m11, m12, m14, m22, m23, m24, m25, m29, m30, m31, m32⟩ := id hM
  obtain ⟨w0, w2, w3, w4, w5, w6, w7, w8, w9⟩ := id hw
  intro n
  induction n with
  | zero =>
    intro x v5 hx
    obtain rfl : x = c 0 := by omega
    have h1 : nI (c 0) ≤ nI (c 0) := nI_le (Nat.le_refl _) (by omega)
    have h2 : gi (aset σ (rlX c o aw (c 0))) 119 0 = nI (c 0) := MC_of (aset_cell (by decide)) hc 0 (by omega)
    rw [w152_46]
    simp only [w152_0, w152_1, w152_2, w152_3, w152_5, w152_8, w152_9, w152_12, w152_13, w152_14, w152_15, w152_18, w152_19, w152_22, w152_24, w152_25, w152_28, w152_31, w152_32, w152_34, w152_35, w152_38, w152_39, w152_40, w152_43, w152_44, w152_48, w152_49, w152_52, w152_53, w152_54, w152_57, w152_58, w152_62, w152_63, w152_66, w152_67, w152_70, w152_72, w152_73, w152_76, w152_78, w152_79, w152_80, w152_81, w152_83, w152_85, w152_88, w152_91, w152_92, w152_95, w152_98, w152_101, w152_104, w152_107, w152_110, ks_118, aset_cell (σ := σ) (aw := rlX c o aw (c 0)) (show 118 ≠ 129 by decide), m0, kt_119, in_nI (show 0 < kl 119 by rw [kl_119]; omega) (by rw [kl_119]; omega), nI_clamp (show 0 < 2 ^ 31 by omega), h2, h1, nI_add, ↓reduceIte, Option.toList_some, Option.toList_none, List.cons_append, List.nil_append]
  | succ n ih =>
    intro x v5 hx
    have h1 : ¬ nI (c 0) ≤ nI x := nI_ge (by omega) (by omega)
    have h2 : gi (aset σ (rlX c o aw x)) 119 0 = nI (c 0) := MC_of (aset_cell (by decide)) hc 0 (by omega)
    rw [w152_46]
    simp only [w152_0, w152_1, w152_2, w152_3, w152_5, w152_8, w152_9, w152_12, w152_13, w152_14, w152_15, w152_18, w152_19, w152_22, w152_24, w152_25, w152_28, w152_31, w152_32, w152_34, w152_35, w152_38, w152_39, w152_40, w152_43, w152_44, w152_48, w152_49, w152_52, w152_53, w152_54, w152_57, w152_58, w152_62, w152_63, w152_66, w152_67, w152_70, w152_72, w152_73, w152_76, w152_78, w152_79, w152_80, w152_81, w152_83, w152_85, w152_88, w152_91, w152_92, w152_95, w152_98, w152_101, w152_104, w152_107, w152_110, ks_118, aset_cell (σ := σ) (aw := rlX c o aw x) (show 118 ≠ 129 by decide), m0, kt_119, in_nI (show 0 < kl 119 by rw [kl_119]; omega) (by rw [kl_119]; omega), nI_clamp (show 0 < 2 ^ 31 by omega), h2, h1, ↓reduceIte, Option.toList_some, Option.toList_none, List.cons_append, List.nil_append]
    have h3 := l_layK (Q := Q) (v2 := v2) (rr := rr) hM hc hw ho (show x < c 0 by omega) (rlX_le (c := c) (o := o) ha x) 3 0 (by omega)
    rw [show rlK c o x (rlX c o aw x) 0 = rlX c o aw x from rfl] at h3
    rw [h3]
    have h4 := ih (x + 1) (some (.int (nI 3))) (by omega)
    rw [show rlX c o aw (x + 1) = rlK c o x (rlX c o aw x) 3 from rfl] at h4
    rw [h4]
    simp
theorem l_layR {o : Nat} {aw : Nat → Nat} {v2 : Option Value} (hM : MR σ) (hc : MC σ c) (hw : WC c) (ho : o < 2 ^ 31) (ha : ∀ y, aw y ≤ FAR) : ∀ (n r : Nat) (v4 v5 : Option Value), r + n = c 0 → Wq none 152 33 [some (.ref (118 : Nat)), some (.int (nI o)), v2, some (.int (nI r)), v4, v5] [] (aset σ (rlR c o aw r)) Q = Q none (aset σ (rlR c o aw (c 0))) := by
  obtain ⟨m0, m1, m2, m3, m5, m6, m8, m11, m12, m14, m22, m23, m24, m25, m29, m30, m31, m32⟩ := id hM
  obtain ⟨w0, w2, w3, w4, w5, w6, w7, w8, w9⟩ := id hw
  intro n
  induction n with
  | zero =>
    intro r v4 v5 hr
    obtain rfl : r = c 0 := by omega
    have h1 : nI (c 0) ≤ nI (c 0) := nI_le (Nat.le_refl _) (by omega)
    have h2 : gi (aset σ (rlR c o aw (c 0))) 119 0 = nI (c 0) := MC_of (aset_cell (by decide)) hc 0 (by omega)
    rw [w152_33]
    simp only [w152_0, w152_1, w152_2, w152_3, w152_5, w152_8, w152_9, w152_12, w152_13, w152_14, w152_15, w152_18, w152_19, w152_22, w152_24, w152_25, w152_28, w152_31, w152_32, w152_34, w152_35, w152_38, w152_39, w152_40, w152_43, w152_44, w152_48, w152_49, w152_52, w152_53, w152_54, w152_57, w152_58, w152_62, w152_63, w152_66, w152_67, w152_70, w152_72, w152_73, w152_76, w152_78, w152_79, w152_80, w152_81, w152_83, w152_85, w152_88, w152_91, w152_92, w152_95, w152_98, w152_101, w152_104, w152_107, w152_110, ks_118, aset_cell (σ := σ) (aw := rlR c o aw (c 0)) (show 118 ≠ 129 by decide), m0, kt_119, in_nI (show 0 < kl 119 by rw [kl_119]; omega) (by rw [kl_119]; omega), nI_clamp (show 0 < 2 ^ 31 by omega), h2, h1, ↓reduceIte, Option.toList_some, Option.toList_none, List.cons_append, List.nil_append]
  | succ n ih =>
    intro r v4 v5 hr
    have h1 : ¬ nI (c 0) ≤ nI r := nI_ge (by omega) (by omega)
    have h2 : gi (aset σ (rlR c o aw r)) 119 0 = nI (c 0) := MC_of (aset_cell (by decide)) hc 0 (by omega)
    rw [w152_33]
    simp only [w152_0, w152_1, w152_2, w152_3, w152_5, w152_8, w152_9, w152_12, w152_13, w152_14, w152_15, w152_18, w152_19, w152_22, w152_24, w152_25, w152_28, w152_31, w152_32, w152_34, w152_35, w152_38, w152_39, w152_40, w152_43, w152_44, w152_48, w152_49, w152_52, w152_53, w152_54, w152_57, w152_58, w152_62, w152_63, w152_66, w152_67, w152_70, w152_72, w152_73, w152_76, w152_78, w152_79, w152_80, w152_81, w152_83, w152_85, w152_88, w152_91, w152_92, w152_95, w152_98, w152_101, w152_104, w152_107, w152_110, ks_118, aset_cell (σ := σ) (aw := rlR c o aw r) (show 118 ≠ 129 by decide), m0, kt_119, in_nI (show 0 < kl 119 by rw [kl_119]; omega) (by rw [kl_119]; omega), nI_clamp (show 0 < 2 ^ 31 by omega), h2, h1, ↓reduceIte, Option.toList_some, Option.toList_none, List.cons_append, List.nil_append]
    have h3 := l_layX (Q := Q) (v2 := v2) (rr := r) hM hc hw ho (rlR_le (c := c) (o := o) ha r) (c 0) 0 v5 (by omega)
    rw [show rlX c o (rlR c o aw r) 0 = rlR c o aw r from rfl] at h3
    rw [h3]
    exact ih (r + 1) _ _ (by omega)
theorem l_layI {o e : Nat} (hM : MR σ) (hc : MC σ c) (hw : WC c) (ho : o < 2 ^ 31) (he : e < 2 ^ 31) : ∀ (n x : Nat), x + n = 8 → Wq none 152 2 [some (.ref (118 : Nat)), some (.int (nI o)), some (.int (nI e)), some (.int (nI x)), none, none] [] (seta σ 129 x (fun y => nI (ini e y))) Q = Q none (aset σ (lay c o e)) := by
  obtain ⟨m0, m1, m2, m3, m5, m6, m8, m11, m12, m14, m22, m23, m24, m25, m29, m30, m31, m32⟩ := id hM
  obtain ⟨w0, w2, w3, w4, w5, w6, w7, w8, w9⟩ := id hw
  intro n
  induction n with
  | zero =>
    intro x hx
    obtain rfl : x = 8 := by omega
    rw [w152_2]
    simp only [w152_0, w152_1, w152_3, w152_5, w152_8, w152_9, w152_12, w152_13, w152_14, w152_15, w152_18, w152_19, w152_22, w152_24, w152_25, w152_28, w152_31, w152_32, w152_34, w152_35, w152_38, w152_39, w152_40, w152_43, w152_44, w152_48, w152_49, w152_52, w152_53, w152_54, w152_57, w152_58, w152_62, w152_63, w152_66, w152_67, w152_70, w152_72, w152_73, w152_76, w152_78, w152_79, w152_80, w152_81, w152_83, w152_85, w152_88, w152_91, w152_92, w152_95, w152_98, w152_101, w152_104, w152_107, w152_110, (by decide : nI 8 ≤ nI 8), ↓reduceIte, Option.toList_some, Option.toList_none, List.cons_append, List.nil_append]
    exact l_layR (aw := ini e) hM hc hw ho (ini_le e) (c 0) 0 none none (by omega)
  | succ n ih =>
    intro x hx
    have h1 : ¬ nI 8 ≤ nI x := nI_ge (by omega) (by omega)
    have hx8 : x < kl 129 := by rw [kl_129]; omega
    rw [w152_2]
    have h5 := ih (x + 1) (by omega)
    rw [← seta_s] at h5
    by_cases hxe : x = e
    · have h2 : nI x = nI e := by rw [hxe]
      have h3 : ini e x = 0 := if_pos hxe
      rw [h3] at h5
      rw [← hxe] at h5 ⊢
      simp only [w152_0, w152_1, w152_3, w152_5, w152_8, w152_9, w152_12, w152_13, w152_14, w152_15, w152_18, w152_19, w152_22, w152_24, w152_25, w152_28, w152_31, w152_32, w152_34, w152_35, w152_38, w152_39, w152_40, w152_43, w152_44, w152_48, w152_49, w152_52, w152_53, w152_54, w152_57, w152_58, w152_62, w152_63, w152_66, w152_67, w152_70, w152_72, w152_73, w152_76, w152_78, w152_79, w152_80, w152_81, w152_83, w152_85, w152_88, w152_91, w152_92, w152_95, w152_98, w152_101, w152_104, w152_107, w152_110, h1, ks_118, seta_cell (σ := σ) (n := x) (A := 129) (f := fun y => nI (ini x y)) (show 118 ≠ 129 by decide), m22, kt_129, in_nI hx8 (by rw [kl_129]; omega), nI_clamp (show x < 2 ^ 31 by omega), nI_add, ↓reduceIte, Option.toList_some, Option.toList_none, List.cons_append, List.nil_append]
      exact h5
    · have h2 : ¬ nI x = nI e := fun z => hxe (nI_inj (by omega) he z)
      have h3 : ini e x = FAR := if_neg hxe
      rw [h3] at h5
      simp only [w152_0, w152_1, w152_3, w152_5, w152_8, w152_9, w152_12, w152_13, w152_14, w152_15, w152_18, w152_19, w152_22, w152_24, w152_25, w152_28, w152_31, w152_32, w152_34, w152_35, w152_38, w152_39, w152_40, w152_43, w152_44, w152_48, w152_49, w152_52, w152_53, w152_54, w152_57, w152_58, w152_62, w152_63, w152_66, w152_67, w152_70, w152_72, w152_73, w152_76, w152_78, w152_79, w152_80, w152_81, w152_83, w152_85, w152_88, w152_91, w152_92, w152_95, w152_98, w152_101, w152_104, w152_107, w152_110, h1, h2, ks_118, seta_cell (σ := σ) (n := x) (A := 129) (f := fun y => nI (ini e y)) (show 118 ≠ 129 by decide), m22, kt_129, in_nI hx8 (by rw [kl_129]; omega), nI_clamp (show x < 2 ^ 31 by omega), nI_add, ↓reduceIte, Option.toList_some, Option.toList_none, List.cons_append, List.nil_append]
      exact h5
theorem c_layAway {o e : Nat} (hM : MR σ) (hc : MC σ c) (hw : WC c) (ho : o < 2 ^ 31) (he : e < 2 ^ 31) : Cq 152 [(.ref (118 : Nat)), .int (nI o), .int (nI e)] σ Q = Q none (aset σ (lay c o e)) := by
  refine Cq_of (Er_of ?_)
  show Wq none 152 0 [some (.ref (118 : Nat)), some (.int (nI o)), some (.int (nI e)), none, none, none] [] _ _
  have h1 := l_layI (Q := fun r' σ2 => r' = none ∧ σ2 = aset σ (lay c o e)) hM hc hw ho he 8 0 (by omega)
  rw [seta_0] at h1
  simp only [w152_0, w152_1, w152_3, w152_5, w152_8, w152_9, w152_12, w152_13, w152_14, w152_15, w152_18, w152_19, w152_22, w152_24, w152_25, w152_28, w152_31, w152_32, w152_34, w152_35, w152_38, w152_39, w152_40, w152_43, w152_44, w152_48, w152_49, w152_52, w152_53, w152_54, w152_57, w152_58, w152_62, w152_63, w152_66, w152_67, w152_70, w152_72, w152_73, w152_76, w152_78, w152_79, w152_80, w152_81, w152_83, w152_85, w152_88, w152_91, w152_92, w152_95, w152_98, w152_101, w152_104, w152_107, w152_110, h1, and_self]
theorem c_length {o a e : Nat} (hM : MR σ) (hc : MC σ c) (hw : WC c) (ho : o < 2 ^ 31) (he : e < 2 ^ 31) (ha : a < 8) : Cq 153 [(.ref (118 : Nat)), .int (nI o), .int (nI a), .int (nI e)] σ Q = Q (some (.int (nI (lay c o e a)))) (aset σ (lay c o e)) := by
  obtain ⟨m0, m1, m2, m3, m5, m6, m8, m11, m12, m14, m22, m23, m24, m25, m29, m30, m31, m32⟩ := id hM
  refine Cq_of (Er_of ?_)
  show Wq none 153 0 [some (.ref (118 : Nat)), some (.int (nI o)), some (.int (nI a)), some (.int (nI e))] [] _ _
  have hx8 : a < kl 129 := by rw [kl_129]; omega
  simp only [w153_0, w153_1, w153_2, w153_3, w153_6, w153_7, w153_10, w153_11, w153_12, ks_118, c_layAway hM hc hw ho he, aset_cell (σ := σ) (aw := lay c o e) (show 118 ≠ 129 by decide), m22, kt_129, in_nI hx8 (by rw [kl_129]; omega), nI_clamp (show a < 2 ^ 31 by omega), aset_gi ha, ↓reduceIte, Option.toList_some, Option.toList_none, List.cons_append, List.nil_append, and_self]
end MG
